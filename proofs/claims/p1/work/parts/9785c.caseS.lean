/-! the law, case by case: 53 -/
theorem jSl_pc_204 {xs : List Int} {d : Nat} {t : Int} (h_t : 1 ≤ t ∧ t ≤ 60) {N d1 d2 d3 d4 d5 d6 d7 : Int} (fd1 : ((FP.l2d (Int64.ofInt (2 * t))).toNat : Int) = d1) (fd2 : jn64 (FP.dmul (ju64 4613504020090455085) (ju64 d1)) = true ∧ ((FP.dmul (ju64 4613504020090455085) (ju64 d1)).toNat : Int) = d2) (fd3 : jn64 (FP.dadd (ju64 4607182418800017408) (ju64 d2)) = true ∧ ((FP.dadd (ju64 4607182418800017408) (ju64 d2)).toNat : Int) = d3) (fd4 : jn64 (FP.dadd (ju64 d3) (ju64 0)) = true ∧ ((FP.dadd (ju64 d3) (ju64 0)).toNat : Int) = d4) (fd5 : jn64 (FP.dadd (ju64 d4) (ju64 0)) = true ∧ ((FP.dadd (ju64 d4) (ju64 0)).toNat : Int) = d5) (fd6 : jn64 (FP.ddiv (ju64 d5) (ju64 4611686018427387904)) = true ∧ ((FP.ddiv (ju64 d5) (ju64 4611686018427387904)).toNat : Int) = d6) (fd7 : (FP.d2l (ju64 d6)).toInt = d7) (h_N : (-1099511627776) ≤ N ∧ N ≤ 1099511627776) (h1 : N ≤ d7) (h2 : d7 ≤ N + 1) (hA : 0 ≤ jlz ((-2) * N + 1) 0 0 (2 * t) 0 0) (hB : jlz ((-2) * N - 1) 0 0 (2 * t) 0 0 < 0) : jT xs (d + 5) 210 23 0 [(0, (4, 0)), (1, (4, 1)), (2, (1, 2))] [] [jzS_251, (101, [], [1, 0, 0, 2 * t, 0, 0]), jgh, jgh, jgh, jgh, jgh, (130, [], [17, 18, 19, 20, 21, 22]), jgh, jgh, jgh, jgh, jgh, jgh, jgh, jgh, jgh, (100, [], (jenc (jlg 0))), (100, [], (jenc (jlg 1))), (100, [], (jenc (jlg 2))), (100, [], (jenc (jlg 3))), (100, [], (jenc (jlg 4))), (100, [], (jenc (jlg 5)))] 60 3210 (fun k v hsN => k = 0 ∧ v = (1, N) ∧ hsN = [jzS_251, (101, [], [1, 0, 0, 2 * t, 0, 0]), jgh, jgh, jgh, jgh, jgh, (130, [], [17, 18, 19, 20, 21, 22]), jgh, jgh, jgh, jgh, jgh, jgh, jgh, jgh, jgh, (100, [], (jenc (jlg 0))), (100, [], (jenc (jlg 1))), (100, [], (jenc (jlg 2))), (100, [], (jenc (jlg 3))), (100, [], (jenc (jlg 4))), (100, [], (jenc (jlg 5)))]) := by
  rcases (show d7 = N + 1 ∨ d7 = N by omega) with g_n | g_n
  · have g_0 : (jlz ((-2) * N - 1) 0 0 (2 * t) 0 0).sign < 0 := jsgn_n (Int.lt_of_le_of_lt (jlz_mono (by omega)) hB)
    have g_1 : 0 ≤ (jlz ((-2) * N + 1) 0 0 (2 * t) 0 0).sign := jsgn_p (Int.le_trans hA (jlz_mono (by omega)))
    refine jT_xaload_n (v := (4, 1)) (pcN := 1) jIS_210_0 rfl rfl rfl ?_
    refine jT_callA [1] (y := 211) (pcN := 4) (dC := 0) (bc1 := 0) (bc2 := 0) (c1 := 60) (c2 := 3210) (as := [(4, 1)]) (asC := [(4, 0)]) (LN := [(0, (4, 0)), (1, (4, 1)), (2, (1, 2))]) (stN := []) (hsC := [(101, [], [1, 0, 0, 2 * t, 0, 0])]) (ex := []) (v := (3, d5)) (st2 := [(3, d5)]) (hs2 := [jzS_251, (101, [], [1, 0, 0, 2 * t, 0, 0]), jgh, jgh, jgh, jgh, jgh, (130, [], [17, 18, 19, 20, 21, 22]), jgh, jgh, jgh, jgh, jgh, jgh, jgh, jgh, jgh, (100, [], (jenc (jlg 0))), (100, [], (jenc (jlg 1))), (100, [], (jenc (jlg 2))), (100, [], (jenc (jlg 3))), (100, [], (jenc (jlg 4))), (100, [], (jenc (jlg 5)))]) (jSl_ro_203 (d := 0) (by omega) fd1 fd2 fd3 fd4 fd5) (by rfl) (by rfl) (by rfl) (by rfl) ⟨rfl, trivial⟩ (by rfl) (by rfl) (by omega) (by show 23 ≤ 23; omega) (by omega) (by omega) rfl rfl ?_
    refine jT_xlload_n (v := (1, 2)) (pcN := 5) jIS_210_4 rfl rfl rfl ?_
    refine jT_l2d (x := 2) (z := 4611686018427387904) (by rfl) (by rfl) (by decide +kernel) ?_
    refine jT_ddiv (x := d5) (y := 4611686018427387904) (z := d6) (by rfl) (by rfl) fd6 ?_
    refine jT_d2l (x := d6) (z := d7) (by rfl) (by rfl) fd7 ?_
    refine jT_xlstore (v := (1, d7)) (LN := [(4, (1, d7)), (0, (4, 0)), (1, (4, 1)), (2, (1, 2))]) (pcN := 10) jIS_210_8 rfl rfl rfl rfl ?_
    refine jT_eq (LN := [(4, (1, N + 1)), (0, (4, 0)), (1, (4, 1)), (2, (1, 2))]) (stN := []) (hsN := [jzS_251, (101, [], [1, 0, 0, 2 * t, 0, 0]), jgh, jgh, jgh, jgh, jgh, (130, [], [17, 18, 19, 20, 21, 22]), jgh, jgh, jgh, jgh, jgh, jgh, jgh, jgh, jgh, (100, [], (jenc (jlg 0))), (100, [], (jenc (jlg 1))), (100, [], (jenc (jlg 2))), (100, [], (jenc (jlg 3))), (100, [], (jenc (jlg 4))), (100, [], (jenc (jlg 5)))]) (by rw [g_n]) rfl rfl ?_
    refine jT_xaload_n (v := (4, 0)) (pcN := 11) jIS_210_10 rfl rfl rfl ?_
    refine jT_xaload_n (v := (4, 1)) (pcN := 12) jIS_210_11 rfl rfl rfl ?_
    refine jT_xlload (v := (1, N + 1)) (pcN := 14) jIS_210_12 rfl rfl rfl ?_
    refine jT_xlload_n (v := (1, 2)) (pcN := 15) jIS_210_14 rfl rfl rfl ?_
    refine jT_xlmul (x := N + 1) (y := 2) (z := 2 * N + 2) (pcN := 16) jIS_210_15 rfl (by omega) rfl ?_
    refine jT_callA [0, 1, 2, 3, 4, 5, 6, 7, 8, 9, 10, 11, 12, 13, 14, 15, 16, 17, 18, 19, 20, 21, 22] (y := 212) (pcN := 19) (dC := 4) (bc1 := 20) (bc2 := 1070) (c1 := 40) (c2 := 2140) (as := [(4, 0), (4, 1), (1, 2 * N + 2)]) (asC := [(4, 0), (4, 1), (1, 2 * N + 2)]) (LN := [(4, (1, N + 1)), (0, (4, 0)), (1, (4, 1)), (2, (1, 2))]) (stN := []) (hsC := [jzS_251, (101, [], [1, 0, 0, 2 * t, 0, 0]), jgh, jgh, jgh, jgh, jgh, (130, [], [17, 18, 19, 20, 21, 22]), jgh, jgh, jgh, jgh, jgh, jgh, jgh, jgh, jgh, (100, [], (jenc (jlg 0))), (100, [], (jenc (jlg 1))), (100, [], (jenc (jlg 2))), (100, [], (jenc (jlg 3))), (100, [], (jenc (jlg 4))), (100, [], (jenc (jlg 5)))]) (ex := []) (v := (0, (jlz ((-2) * N - 1) 0 0 (2 * t) 0 0).sign)) (st2 := [(0, (jlz ((-2) * N - 1) 0 0 (2 * t) 0 0).sign)]) (hs2 := [jzS_251, (101, [], [1, 0, 0, 2 * t, 0, 0]), jgh, jgh, jgh, jgh, jgh, (130, [], [17, 18, 19, 20, 21, 22]), jgh, jgh, jgh, jgh, jgh, jgh, jgh, jgh, jgh, (100, [], (jenc (jlg 0))), (100, [], (jenc (jlg 1))), (100, [], (jenc (jlg 2))), (100, [], (jenc (jlg 3))), (100, [], (jenc (jlg 4))), (100, [], (jenc (jlg 5)))]) (jS_212_208 (d := 0) (by omega) (by omega) (by omega) (by omega)) (by rfl) (by rfl) (by rfl) (by rfl) ⟨rfl, rfl, rfl, rfl, rfl, rfl, rfl, rfl, rfl, rfl, rfl, rfl, rfl, rfl, rfl, rfl, rfl, rfl, rfl, rfl, rfl, rfl, rfl, trivial⟩ (by rfl) (by rfl) (by omega) (by show 23 ≤ 23; omega) (by omega) (by omega) rfl rfl ?_
    have hb_q1 := jsgn_b (jlz ((-2) * N - 1) 0 0 (2 * t) 0 0)
    generalize hq_q1 : (jlz ((-2) * N - 1) 0 0 (2 * t) 0 0).sign = q1 at hb_q1 g_0 ⊢
    refine jT_ifF (a := q1) (t := 31) (by rfl) (by rfl) (by rfl) (jw_idd (by omega) (by omega)) (by simp only [jcP] <;> omega) ?_
    refine jT_xlload (v := (1, N + 1)) (pcN := 24) jIS_210_22 rfl rfl rfl ?_
    refine jT_xlconst (z := 1) (pcN := 25) jIS_210_24 rfl rfl ?_
    refine jT_xlsub (x := N + 1) (y := 1) (z := N) (pcN := 26) jIS_210_25 rfl (by omega) rfl ?_
    refine jT_xlstore (v := (1, N)) (LN := [(4, (1, N)), (0, (4, 0)), (1, (4, 1)), (2, (1, 2))]) (pcN := 28) jIS_210_26 rfl rfl rfl rfl ?_
    refine jT_xgoto (pcN := 10) jIS_210_28 rfl ?_
    refine jT_xaload_n (v := (4, 0)) (pcN := 11) jIS_210_10 rfl rfl rfl ?_
    refine jT_xaload_n (v := (4, 1)) (pcN := 12) jIS_210_11 rfl rfl rfl ?_
    refine jT_xlload (v := (1, N)) (pcN := 14) jIS_210_12 rfl rfl rfl ?_
    refine jT_xlload_n (v := (1, 2)) (pcN := 15) jIS_210_14 rfl rfl rfl ?_
    refine jT_xlmul (x := N) (y := 2) (z := 2 * N) (pcN := 16) jIS_210_15 rfl (by omega) rfl ?_
    refine jT_callA [0, 1, 2, 3, 4, 5, 6, 7, 8, 9, 10, 11, 12, 13, 14, 15, 16, 17, 18, 19, 20, 21, 22] (y := 212) (pcN := 19) (dC := 4) (bc1 := 20) (bc2 := 1070) (c1 := 20) (c2 := 1070) (as := [(4, 0), (4, 1), (1, 2 * N)]) (asC := [(4, 0), (4, 1), (1, 2 * N)]) (LN := [(4, (1, N)), (0, (4, 0)), (1, (4, 1)), (2, (1, 2))]) (stN := []) (hsC := [jzS_251, (101, [], [1, 0, 0, 2 * t, 0, 0]), jgh, jgh, jgh, jgh, jgh, (130, [], [17, 18, 19, 20, 21, 22]), jgh, jgh, jgh, jgh, jgh, jgh, jgh, jgh, jgh, (100, [], (jenc (jlg 0))), (100, [], (jenc (jlg 1))), (100, [], (jenc (jlg 2))), (100, [], (jenc (jlg 3))), (100, [], (jenc (jlg 4))), (100, [], (jenc (jlg 5)))]) (ex := []) (v := (0, (jlz ((-2) * N + 1) 0 0 (2 * t) 0 0).sign)) (st2 := [(0, (jlz ((-2) * N + 1) 0 0 (2 * t) 0 0).sign)]) (hs2 := [jzS_251, (101, [], [1, 0, 0, 2 * t, 0, 0]), jgh, jgh, jgh, jgh, jgh, (130, [], [17, 18, 19, 20, 21, 22]), jgh, jgh, jgh, jgh, jgh, jgh, jgh, jgh, jgh, (100, [], (jenc (jlg 0))), (100, [], (jenc (jlg 1))), (100, [], (jenc (jlg 2))), (100, [], (jenc (jlg 3))), (100, [], (jenc (jlg 4))), (100, [], (jenc (jlg 5)))]) (jS_212_209 (d := 0) (by omega) (by omega) (by omega)) (by rfl) (by rfl) (by rfl) (by rfl) ⟨rfl, rfl, rfl, rfl, rfl, rfl, rfl, rfl, rfl, rfl, rfl, rfl, rfl, rfl, rfl, rfl, rfl, rfl, rfl, rfl, rfl, rfl, rfl, trivial⟩ (by rfl) (by rfl) (by omega) (by show 23 ≤ 23; omega) (by omega) (by omega) rfl rfl ?_
    have hb_q2 := jsgn_b (jlz ((-2) * N + 1) 0 0 (2 * t) 0 0)
    generalize hq_q2 : (jlz ((-2) * N + 1) 0 0 (2 * t) 0 0).sign = q2 at hb_q2 g_1 ⊢
    refine jT_ifT (a := q2) (t := 31) (by rfl) (by rfl) (by rfl) (jw_idd (by omega) (by omega)) (by simp only [jcP] <;> omega) ?_
    refine jT_xaload_n (v := (4, 0)) (pcN := 32) jIS_210_31 rfl rfl rfl ?_
    refine jT_xaload_n (v := (4, 1)) (pcN := 33) jIS_210_32 rfl rfl rfl ?_
    refine jT_xlload (v := (1, N)) (pcN := 35) jIS_210_33 rfl rfl rfl ?_
    refine jT_xlconst (z := 1) (pcN := 36) jIS_210_35 rfl rfl ?_
    refine jT_xladd (x := N) (y := 1) (z := N + 1) (pcN := 37) jIS_210_36 rfl (rfl) rfl ?_
    refine jT_xlload_n (v := (1, 2)) (pcN := 38) jIS_210_37 rfl rfl rfl ?_
    refine jT_xlmul (x := N + 1) (y := 2) (z := 2 * N + 2) (pcN := 39) jIS_210_38 rfl (by omega) rfl ?_
    refine jT_callA [0, 1, 2, 3, 4, 5, 6, 7, 8, 9, 10, 11, 12, 13, 14, 15, 16, 17, 18, 19, 20, 21, 22] (y := 212) (pcN := 42) (dC := 4) (bc1 := 20) (bc2 := 1070) (c1 := 0) (c2 := 0) (as := [(4, 0), (4, 1), (1, 2 * N + 2)]) (asC := [(4, 0), (4, 1), (1, 2 * N + 2)]) (LN := [(4, (1, N)), (0, (4, 0)), (1, (4, 1)), (2, (1, 2))]) (stN := []) (hsC := [jzS_251, (101, [], [1, 0, 0, 2 * t, 0, 0]), jgh, jgh, jgh, jgh, jgh, (130, [], [17, 18, 19, 20, 21, 22]), jgh, jgh, jgh, jgh, jgh, jgh, jgh, jgh, jgh, (100, [], (jenc (jlg 0))), (100, [], (jenc (jlg 1))), (100, [], (jenc (jlg 2))), (100, [], (jenc (jlg 3))), (100, [], (jenc (jlg 4))), (100, [], (jenc (jlg 5)))]) (ex := []) (v := (0, (jlz ((-2) * N - 1) 0 0 (2 * t) 0 0).sign)) (st2 := [(0, (jlz ((-2) * N - 1) 0 0 (2 * t) 0 0).sign)]) (hs2 := [jzS_251, (101, [], [1, 0, 0, 2 * t, 0, 0]), jgh, jgh, jgh, jgh, jgh, (130, [], [17, 18, 19, 20, 21, 22]), jgh, jgh, jgh, jgh, jgh, jgh, jgh, jgh, jgh, (100, [], (jenc (jlg 0))), (100, [], (jenc (jlg 1))), (100, [], (jenc (jlg 2))), (100, [], (jenc (jlg 3))), (100, [], (jenc (jlg 4))), (100, [], (jenc (jlg 5)))]) (jS_212_205 (d := 0) (by omega) (by omega)) (by rfl) (by rfl) (by rfl) (by rfl) ⟨rfl, rfl, rfl, rfl, rfl, rfl, rfl, rfl, rfl, rfl, rfl, rfl, rfl, rfl, rfl, rfl, rfl, rfl, rfl, rfl, rfl, rfl, rfl, trivial⟩ (by rfl) (by rfl) (by omega) (by show 23 ≤ 23; omega) (by omega) (by omega) rfl rfl ?_
    rw [hq_q1]
    refine jT_ifT (a := q1) (t := 54) (by rfl) (by rfl) (by rfl) (jw_idd (by omega) (by omega)) (by simp only [jcP] <;> omega) ?_
    refine jT_xlload (v := (1, N)) (pcN := 56) jIS_210_54 rfl rfl rfl ?_
    exact jT_ret rfl (by decide) (by show 23 ≤ 23; decide) (by omega) (by omega) ⟨rfl, rfl, rfl⟩
  · have g_0 : 0 ≤ (jlz ((-2) * N + 1) 0 0 (2 * t) 0 0).sign := jsgn_p (Int.le_trans hA (jlz_mono (by omega)))
    have g_1 : (jlz ((-2) * N - 1) 0 0 (2 * t) 0 0).sign < 0 := jsgn_n (Int.lt_of_le_of_lt (jlz_mono (by omega)) hB)
    refine jT_xaload_n (v := (4, 1)) (pcN := 1) jIS_210_0 rfl rfl rfl ?_
    refine jT_callA [1] (y := 211) (pcN := 4) (dC := 0) (bc1 := 0) (bc2 := 0) (c1 := 60) (c2 := 3210) (as := [(4, 1)]) (asC := [(4, 0)]) (LN := [(0, (4, 0)), (1, (4, 1)), (2, (1, 2))]) (stN := []) (hsC := [(101, [], [1, 0, 0, 2 * t, 0, 0])]) (ex := []) (v := (3, d5)) (st2 := [(3, d5)]) (hs2 := [jzS_251, (101, [], [1, 0, 0, 2 * t, 0, 0]), jgh, jgh, jgh, jgh, jgh, (130, [], [17, 18, 19, 20, 21, 22]), jgh, jgh, jgh, jgh, jgh, jgh, jgh, jgh, jgh, (100, [], (jenc (jlg 0))), (100, [], (jenc (jlg 1))), (100, [], (jenc (jlg 2))), (100, [], (jenc (jlg 3))), (100, [], (jenc (jlg 4))), (100, [], (jenc (jlg 5)))]) (jSl_ro_203 (d := 0) (by omega) fd1 fd2 fd3 fd4 fd5) (by rfl) (by rfl) (by rfl) (by rfl) ⟨rfl, trivial⟩ (by rfl) (by rfl) (by omega) (by show 23 ≤ 23; omega) (by omega) (by omega) rfl rfl ?_
    refine jT_xlload_n (v := (1, 2)) (pcN := 5) jIS_210_4 rfl rfl rfl ?_
    refine jT_l2d (x := 2) (z := 4611686018427387904) (by rfl) (by rfl) (by decide +kernel) ?_
    refine jT_ddiv (x := d5) (y := 4611686018427387904) (z := d6) (by rfl) (by rfl) fd6 ?_
    refine jT_d2l (x := d6) (z := d7) (by rfl) (by rfl) fd7 ?_
    refine jT_xlstore (v := (1, d7)) (LN := [(4, (1, d7)), (0, (4, 0)), (1, (4, 1)), (2, (1, 2))]) (pcN := 10) jIS_210_8 rfl rfl rfl rfl ?_
    refine jT_eq (LN := [(4, (1, N)), (0, (4, 0)), (1, (4, 1)), (2, (1, 2))]) (stN := []) (hsN := [jzS_251, (101, [], [1, 0, 0, 2 * t, 0, 0]), jgh, jgh, jgh, jgh, jgh, (130, [], [17, 18, 19, 20, 21, 22]), jgh, jgh, jgh, jgh, jgh, jgh, jgh, jgh, jgh, (100, [], (jenc (jlg 0))), (100, [], (jenc (jlg 1))), (100, [], (jenc (jlg 2))), (100, [], (jenc (jlg 3))), (100, [], (jenc (jlg 4))), (100, [], (jenc (jlg 5)))]) (by rw [g_n]) rfl rfl ?_
    refine jT_xaload_n (v := (4, 0)) (pcN := 11) jIS_210_10 rfl rfl rfl ?_
    refine jT_xaload_n (v := (4, 1)) (pcN := 12) jIS_210_11 rfl rfl rfl ?_
    refine jT_xlload (v := (1, N)) (pcN := 14) jIS_210_12 rfl rfl rfl ?_
    refine jT_xlload_n (v := (1, 2)) (pcN := 15) jIS_210_14 rfl rfl rfl ?_
    refine jT_xlmul (x := N) (y := 2) (z := 2 * N) (pcN := 16) jIS_210_15 rfl (by omega) rfl ?_
    refine jT_callA [0, 1, 2, 3, 4, 5, 6, 7, 8, 9, 10, 11, 12, 13, 14, 15, 16, 17, 18, 19, 20, 21, 22] (y := 212) (pcN := 19) (dC := 4) (bc1 := 20) (bc2 := 1070) (c1 := 40) (c2 := 2140) (as := [(4, 0), (4, 1), (1, 2 * N)]) (asC := [(4, 0), (4, 1), (1, 2 * N)]) (LN := [(4, (1, N)), (0, (4, 0)), (1, (4, 1)), (2, (1, 2))]) (stN := []) (hsC := [jzS_251, (101, [], [1, 0, 0, 2 * t, 0, 0]), jgh, jgh, jgh, jgh, jgh, (130, [], [17, 18, 19, 20, 21, 22]), jgh, jgh, jgh, jgh, jgh, jgh, jgh, jgh, jgh, (100, [], (jenc (jlg 0))), (100, [], (jenc (jlg 1))), (100, [], (jenc (jlg 2))), (100, [], (jenc (jlg 3))), (100, [], (jenc (jlg 4))), (100, [], (jenc (jlg 5)))]) (ex := []) (v := (0, (jlz ((-2) * N + 1) 0 0 (2 * t) 0 0).sign)) (st2 := [(0, (jlz ((-2) * N + 1) 0 0 (2 * t) 0 0).sign)]) (hs2 := [jzS_251, (101, [], [1, 0, 0, 2 * t, 0, 0]), jgh, jgh, jgh, jgh, jgh, (130, [], [17, 18, 19, 20, 21, 22]), jgh, jgh, jgh, jgh, jgh, jgh, jgh, jgh, jgh, (100, [], (jenc (jlg 0))), (100, [], (jenc (jlg 1))), (100, [], (jenc (jlg 2))), (100, [], (jenc (jlg 3))), (100, [], (jenc (jlg 4))), (100, [], (jenc (jlg 5)))]) (jS_212_210 (d := 0) (by omega) (by omega) (by omega) (by omega)) (by rfl) (by rfl) (by rfl) (by rfl) ⟨rfl, rfl, rfl, rfl, rfl, rfl, rfl, rfl, rfl, rfl, rfl, rfl, rfl, rfl, rfl, rfl, rfl, rfl, rfl, rfl, rfl, rfl, rfl, trivial⟩ (by rfl) (by rfl) (by omega) (by show 23 ≤ 23; omega) (by omega) (by omega) rfl rfl ?_
    have hb_q1 := jsgn_b (jlz ((-2) * N + 1) 0 0 (2 * t) 0 0)
    generalize hq_q1 : (jlz ((-2) * N + 1) 0 0 (2 * t) 0 0).sign = q1 at hb_q1 g_0 ⊢
    refine jT_ifT (a := q1) (t := 31) (by rfl) (by rfl) (by rfl) (jw_idd (by omega) (by omega)) (by simp only [jcP] <;> omega) ?_
    refine jT_xaload_n (v := (4, 0)) (pcN := 32) jIS_210_31 rfl rfl rfl ?_
    refine jT_xaload_n (v := (4, 1)) (pcN := 33) jIS_210_32 rfl rfl rfl ?_
    refine jT_xlload (v := (1, N)) (pcN := 35) jIS_210_33 rfl rfl rfl ?_
    refine jT_xlconst (z := 1) (pcN := 36) jIS_210_35 rfl rfl ?_
    refine jT_xladd (x := N) (y := 1) (z := N + 1) (pcN := 37) jIS_210_36 rfl (rfl) rfl ?_
    refine jT_xlload_n (v := (1, 2)) (pcN := 38) jIS_210_37 rfl rfl rfl ?_
    refine jT_xlmul (x := N + 1) (y := 2) (z := 2 * N + 2) (pcN := 39) jIS_210_38 rfl (by omega) rfl ?_
    refine jT_callA [0, 1, 2, 3, 4, 5, 6, 7, 8, 9, 10, 11, 12, 13, 14, 15, 16, 17, 18, 19, 20, 21, 22] (y := 212) (pcN := 42) (dC := 4) (bc1 := 20) (bc2 := 1070) (c1 := 20) (c2 := 1070) (as := [(4, 0), (4, 1), (1, 2 * N + 2)]) (asC := [(4, 0), (4, 1), (1, 2 * N + 2)]) (LN := [(4, (1, N)), (0, (4, 0)), (1, (4, 1)), (2, (1, 2))]) (stN := []) (hsC := [jzS_251, (101, [], [1, 0, 0, 2 * t, 0, 0]), jgh, jgh, jgh, jgh, jgh, (130, [], [17, 18, 19, 20, 21, 22]), jgh, jgh, jgh, jgh, jgh, jgh, jgh, jgh, jgh, (100, [], (jenc (jlg 0))), (100, [], (jenc (jlg 1))), (100, [], (jenc (jlg 2))), (100, [], (jenc (jlg 3))), (100, [], (jenc (jlg 4))), (100, [], (jenc (jlg 5)))]) (ex := []) (v := (0, (jlz ((-2) * N - 1) 0 0 (2 * t) 0 0).sign)) (st2 := [(0, (jlz ((-2) * N - 1) 0 0 (2 * t) 0 0).sign)]) (hs2 := [jzS_251, (101, [], [1, 0, 0, 2 * t, 0, 0]), jgh, jgh, jgh, jgh, jgh, (130, [], [17, 18, 19, 20, 21, 22]), jgh, jgh, jgh, jgh, jgh, jgh, jgh, jgh, jgh, (100, [], (jenc (jlg 0))), (100, [], (jenc (jlg 1))), (100, [], (jenc (jlg 2))), (100, [], (jenc (jlg 3))), (100, [], (jenc (jlg 4))), (100, [], (jenc (jlg 5)))]) (jS_212_206 (d := 0) (by omega) (by omega) (by omega)) (by rfl) (by rfl) (by rfl) (by rfl) ⟨rfl, rfl, rfl, rfl, rfl, rfl, rfl, rfl, rfl, rfl, rfl, rfl, rfl, rfl, rfl, rfl, rfl, rfl, rfl, rfl, rfl, rfl, rfl, trivial⟩ (by rfl) (by rfl) (by omega) (by show 23 ≤ 23; omega) (by omega) (by omega) rfl rfl ?_
    have hb_q2 := jsgn_b (jlz ((-2) * N - 1) 0 0 (2 * t) 0 0)
    generalize hq_q2 : (jlz ((-2) * N - 1) 0 0 (2 * t) 0 0).sign = q2 at hb_q2 g_1 ⊢
    refine jT_ifT (a := q2) (t := 54) (by rfl) (by rfl) (by rfl) (jw_idd (by omega) (by omega)) (by simp only [jcP] <;> omega) ?_
    refine jT_xlload (v := (1, N)) (pcN := 56) jIS_210_54 rfl rfl rfl ?_
    exact jT_ret rfl (by decide) (by show 23 ≤ 23; decide) (by omega) (by omega) ⟨rfl, rfl, rfl⟩
theorem jSl_ps_211 {xs : List Int} {d : Nat} {t : Int} (h_t : 1 ≤ t ∧ t ≤ 60) : jT xs (d + 5) 210 23 0 [(0, (4, 0)), (1, (4, 1)), (2, (1, 2))] [] [jzS_251, (101, [], [1, 0, 0, 2 * t, 0, 0]), jgh, jgh, jgh, jgh, jgh, (130, [], [17, 18, 19, 20, 21, 22]), jgh, jgh, jgh, jgh, jgh, jgh, jgh, jgh, jgh, (100, [], (jenc (jlg 0))), (100, [], (jenc (jlg 1))), (100, [], (jenc (jlg 2))), (100, [], (jenc (jlg 3))), (100, [], (jenc (jlg 4))), (100, [], (jenc (jlg 5)))] 60 3210 (fun k v hsN => k = 0 ∧ v = (1, jbp3 t) ∧ hsN = [jzS_251, (101, [], [1, 0, 0, 2 * t, 0, 0]), jgh, jgh, jgh, jgh, jgh, (130, [], [17, 18, 19, 20, 21, 22]), jgh, jgh, jgh, jgh, jgh, jgh, jgh, jgh, jgh, (100, [], (jenc (jlg 0))), (100, [], (jenc (jlg 1))), (100, [], (jenc (jlg 2))), (100, [], (jenc (jlg 3))), (100, [], (jenc (jlg 4))), (100, [], (jenc (jlg 5)))]) := by
  obtain ⟨d1, d2, d3, d4, d5, d6, d7, fd1, fd2, fd3, fd4, fd5, fd6, fd7, h1, h2, h3, hA, hB⟩ := jbx_3 (p := t) (by omega)
  exact jSl_pc_204 (by omega) fd1 fd2 fd3 fd4 fd5 fd6 fd7 h3 h1 h2 hA hB
theorem jS_216_212 {xs : List Int} {d : Nat} {t : Int} (h_t : 1 ≤ t ∧ t ≤ 60) (g_0 : t - 61 < 0) : jT xs (d + 6) 216 23 0 [(0, (4, 0)), (1, (4, 1)), (2, (1, 1))] [] [jzS_251, (101, [], [0, 0, 0, t, 0, 0]), jgh, jgh, jgh, jgh, jgh, (130, [], [17, 18, 19, 20, 21, 22]), jgh, jgh, jgh, jgh, jgh, jgh, jgh, jgh, jgh, (100, [], (jenc (jlg 0))), (100, [], (jenc (jlg 1))), (100, [], (jenc (jlg 2))), (100, [], (jenc (jlg 3))), (100, [], (jenc (jlg 4))), (100, [], (jenc (jlg 5)))] 61 3216 (fun k v hsN => k = 0 ∧ v = (1, jbp3 t) ∧ hsN = [jzS_251, (101, [], [0, 0, 0, t, 0, 0]), jgh, jgh, jgh, jgh, jgh, (130, [], [17, 18, 19, 20, 21, 22]), jgh, jgh, jgh, jgh, jgh, jgh, jgh, jgh, jgh, (100, [], (jenc (jlg 0))), (100, [], (jenc (jlg 1))), (100, [], (jenc (jlg 2))), (100, [], (jenc (jlg 3))), (100, [], (jenc (jlg 4))), (100, [], (jenc (jlg 5)))] ++ []) := by
  refine jT_xbipush (k := 6) (pcN := 2) jIS_216_0 (by decide) rfl ?_
  refine jT_adv 1 (pcN := 4) (LN := [(0, (4, 0)), (1, (4, 1)), (2, (1, 1))]) (stN := [(4, 23)]) (hsN := [jzS_251, (101, [], [0, 0, 0, t, 0, 0]), jgh, jgh, jgh, jgh, jgh, (130, [], [17, 18, 19, 20, 21, 22]), jgh, jgh, jgh, jgh, jgh, jgh, jgh, jgh, jgh, (100, [], (jenc (jlg 0))), (100, [], (jenc (jlg 1))), (100, [], (jenc (jlg 2))), (100, [], (jenc (jlg 3))), (100, [], (jenc (jlg 4))), (100, [], (jenc (jlg 5))), (101, [], [0, 0, 0, 0, 0, 0])]) (c1 := 1) (s1 := 6) (c2 := 60) (s2 := 3210) (by exact rfl) ?_ (by omega) (by omega)
  refine jT_xastore (v := (4, 23)) (LN := [(4, (4, 23)), (0, (4, 0)), (1, (4, 1)), (2, (1, 1))]) (pcN := 6) jIS_216_4 rfl rfl rfl rfl ?_
  refine jT_xiconst (k := 0) (pcN := 7) jIS_216_6 rfl ?_
  refine jT_xistore (v := (0, 0)) (LN := [(5, (0, 0)), (4, (4, 23)), (0, (4, 0)), (1, (4, 1)), (2, (1, 1))]) (pcN := 9) jIS_216_7 rfl rfl rfl rfl ?_
  refine jT_xiload (v := (0, 0)) (pcN := 11) jIS_216_9 rfl rfl rfl ?_
  refine jT_xbipush (k := 6) (pcN := 13) jIS_216_11 (by decide) rfl ?_
  refine jT_xicF (t := 35) (pcN := 16) jIS_216_13 rfl (by decide +kernel) rfl rfl ?_
  refine jT_xaload (v := (4, 23)) (pcN := 18) jIS_216_16 rfl rfl rfl ?_
  refine jT_xiload (v := (0, 0)) (pcN := 20) jIS_216_18 rfl rfl rfl ?_
  refine jT_adv 1 (pcN := 23) (LN := [(5, (0, 0)), (4, (4, 23)), (0, (4, 0)), (1, (4, 1)), (2, (1, 1))]) (stN := [(1, 2), (0, 0), (4, 23)]) (hsN := [jzS_251, (101, [], [0, 0, 0, t, 0, 0]), jgh, jgh, jgh, jgh, jgh, (130, [], [17, 18, 19, 20, 21, 22]), jgh, jgh, jgh, jgh, jgh, jgh, jgh, jgh, jgh, (100, [], (jenc (jlg 0))), (100, [], (jenc (jlg 1))), (100, [], (jenc (jlg 2))), (100, [], (jenc (jlg 3))), (100, [], (jenc (jlg 4))), (100, [], (jenc (jlg 5))), (101, [], [0, 0, 0, 0, 0, 0])]) (c1 := 0) (s1 := 0) (c2 := 60) (s2 := 3210) (by exact rfl) ?_ (by omega) (by omega)
  refine jT_xaload_n (v := (4, 1)) (pcN := 24) jIS_216_23 rfl rfl rfl ?_
  refine jT_xiload (v := (0, 0)) (pcN := 26) jIS_216_24 rfl rfl rfl ?_
  refine jT_lald (x := 0) (a := 1) (j := 0) (fs := []) (X := [0, 0, 0, t, 0, 0]) jIS_216_26 rfl rfl rfl rfl ?_
  refine jT_eq (LN := [(5, (0, 0)), (4, (4, 23)), (0, (4, 0)), (1, (4, 1)), (2, (1, 1))]) (stN := [(1, 0), (1, 2), (0, 0), (4, 23)]) (hsN := [jzS_251, (101, [], [0, 0, 0, t, 0, 0]), jgh, jgh, jgh, jgh, jgh, (130, [], [17, 18, 19, 20, 21, 22]), jgh, jgh, jgh, jgh, jgh, jgh, jgh, jgh, jgh, (100, [], (jenc (jlg 0))), (100, [], (jenc (jlg 1))), (100, [], (jenc (jlg 2))), (100, [], (jenc (jlg 3))), (100, [], (jenc (jlg 4))), (100, [], (jenc (jlg 5))), (101, [], [0, 0, 0, 0, 0, 0])]) rfl rfl rfl ?_
  refine jT_xlmul (x := 2) (y := 0) (z := 0) (pcN := 28) jIS_216_27 rfl (by decide) rfl ?_
  refine jT_adv 1 (pcN := 29) (LN := [(5, (0, 0)), (4, (4, 23)), (0, (4, 0)), (1, (4, 1)), (2, (1, 1))]) (stN := []) (hsN := [jzS_251, (101, [], [0, 0, 0, t, 0, 0]), jgh, jgh, jgh, jgh, jgh, (130, [], [17, 18, 19, 20, 21, 22]), jgh, jgh, jgh, jgh, jgh, jgh, jgh, jgh, jgh, (100, [], (jenc (jlg 0))), (100, [], (jenc (jlg 1))), (100, [], (jenc (jlg 2))), (100, [], (jenc (jlg 3))), (100, [], (jenc (jlg 4))), (100, [], (jenc (jlg 5))), (101, [], [0, 0, 0, 0, 0, 0])]) (c1 := 0) (s1 := 0) (c2 := 60) (s2 := 3210) (by exact rfl) ?_ (by omega) (by omega)
  refine jT_xiinc (x := 0) (z := 1) (LN := [(5, (0, 1)), (4, (4, 23)), (0, (4, 0)), (1, (4, 1)), (2, (1, 1))]) (pcN := 32) jIS_216_29 rfl rfl (by decide) rfl rfl ?_
  refine jT_xgoto (pcN := 9) jIS_216_32 rfl ?_
  refine jT_xiload (v := (0, 1)) (pcN := 11) jIS_216_9 rfl rfl rfl ?_
  refine jT_xbipush (k := 6) (pcN := 13) jIS_216_11 (by decide) rfl ?_
  refine jT_xicF (t := 35) (pcN := 16) jIS_216_13 rfl (by decide +kernel) rfl rfl ?_
  refine jT_xaload (v := (4, 23)) (pcN := 18) jIS_216_16 rfl rfl rfl ?_
  refine jT_xiload (v := (0, 1)) (pcN := 20) jIS_216_18 rfl rfl rfl ?_
  refine jT_adv 1 (pcN := 23) (LN := [(5, (0, 1)), (4, (4, 23)), (0, (4, 0)), (1, (4, 1)), (2, (1, 1))]) (stN := [(1, 2), (0, 1), (4, 23)]) (hsN := [jzS_251, (101, [], [0, 0, 0, t, 0, 0]), jgh, jgh, jgh, jgh, jgh, (130, [], [17, 18, 19, 20, 21, 22]), jgh, jgh, jgh, jgh, jgh, jgh, jgh, jgh, jgh, (100, [], (jenc (jlg 0))), (100, [], (jenc (jlg 1))), (100, [], (jenc (jlg 2))), (100, [], (jenc (jlg 3))), (100, [], (jenc (jlg 4))), (100, [], (jenc (jlg 5))), (101, [], [0, 0, 0, 0, 0, 0])]) (c1 := 0) (s1 := 0) (c2 := 60) (s2 := 3210) (by exact rfl) ?_ (by omega) (by omega)
  refine jT_xaload_n (v := (4, 1)) (pcN := 24) jIS_216_23 rfl rfl rfl ?_
  refine jT_xiload (v := (0, 1)) (pcN := 26) jIS_216_24 rfl rfl rfl ?_
  refine jT_lald (x := 0) (a := 1) (j := 1) (fs := []) (X := [0, 0, 0, t, 0, 0]) jIS_216_26 rfl rfl rfl rfl ?_
  refine jT_eq (LN := [(5, (0, 1)), (4, (4, 23)), (0, (4, 0)), (1, (4, 1)), (2, (1, 1))]) (stN := [(1, 0), (1, 2), (0, 1), (4, 23)]) (hsN := [jzS_251, (101, [], [0, 0, 0, t, 0, 0]), jgh, jgh, jgh, jgh, jgh, (130, [], [17, 18, 19, 20, 21, 22]), jgh, jgh, jgh, jgh, jgh, jgh, jgh, jgh, jgh, (100, [], (jenc (jlg 0))), (100, [], (jenc (jlg 1))), (100, [], (jenc (jlg 2))), (100, [], (jenc (jlg 3))), (100, [], (jenc (jlg 4))), (100, [], (jenc (jlg 5))), (101, [], [0, 0, 0, 0, 0, 0])]) rfl rfl rfl ?_
  refine jT_xlmul (x := 2) (y := 0) (z := 0) (pcN := 28) jIS_216_27 rfl (by decide) rfl ?_
  refine jT_adv 1 (pcN := 29) (LN := [(5, (0, 1)), (4, (4, 23)), (0, (4, 0)), (1, (4, 1)), (2, (1, 1))]) (stN := []) (hsN := [jzS_251, (101, [], [0, 0, 0, t, 0, 0]), jgh, jgh, jgh, jgh, jgh, (130, [], [17, 18, 19, 20, 21, 22]), jgh, jgh, jgh, jgh, jgh, jgh, jgh, jgh, jgh, (100, [], (jenc (jlg 0))), (100, [], (jenc (jlg 1))), (100, [], (jenc (jlg 2))), (100, [], (jenc (jlg 3))), (100, [], (jenc (jlg 4))), (100, [], (jenc (jlg 5))), (101, [], [0, 0, 0, 0, 0, 0])]) (c1 := 0) (s1 := 0) (c2 := 60) (s2 := 3210) (by exact rfl) ?_ (by omega) (by omega)
  refine jT_xiinc (x := 1) (z := 2) (LN := [(5, (0, 2)), (4, (4, 23)), (0, (4, 0)), (1, (4, 1)), (2, (1, 1))]) (pcN := 32) jIS_216_29 rfl rfl (by decide) rfl rfl ?_
  refine jT_xgoto (pcN := 9) jIS_216_32 rfl ?_
  refine jT_xiload (v := (0, 2)) (pcN := 11) jIS_216_9 rfl rfl rfl ?_
  refine jT_xbipush (k := 6) (pcN := 13) jIS_216_11 (by decide) rfl ?_
  refine jT_xicF (t := 35) (pcN := 16) jIS_216_13 rfl (by decide +kernel) rfl rfl ?_
  refine jT_xaload (v := (4, 23)) (pcN := 18) jIS_216_16 rfl rfl rfl ?_
  refine jT_xiload (v := (0, 2)) (pcN := 20) jIS_216_18 rfl rfl rfl ?_
  refine jT_adv 1 (pcN := 23) (LN := [(5, (0, 2)), (4, (4, 23)), (0, (4, 0)), (1, (4, 1)), (2, (1, 1))]) (stN := [(1, 2), (0, 2), (4, 23)]) (hsN := [jzS_251, (101, [], [0, 0, 0, t, 0, 0]), jgh, jgh, jgh, jgh, jgh, (130, [], [17, 18, 19, 20, 21, 22]), jgh, jgh, jgh, jgh, jgh, jgh, jgh, jgh, jgh, (100, [], (jenc (jlg 0))), (100, [], (jenc (jlg 1))), (100, [], (jenc (jlg 2))), (100, [], (jenc (jlg 3))), (100, [], (jenc (jlg 4))), (100, [], (jenc (jlg 5))), (101, [], [0, 0, 0, 0, 0, 0])]) (c1 := 0) (s1 := 0) (c2 := 60) (s2 := 3210) (by exact rfl) ?_ (by omega) (by omega)
  refine jT_xaload_n (v := (4, 1)) (pcN := 24) jIS_216_23 rfl rfl rfl ?_
  refine jT_xiload (v := (0, 2)) (pcN := 26) jIS_216_24 rfl rfl rfl ?_
  refine jT_lald (x := 0) (a := 1) (j := 2) (fs := []) (X := [0, 0, 0, t, 0, 0]) jIS_216_26 rfl rfl rfl rfl ?_
  refine jT_eq (LN := [(5, (0, 2)), (4, (4, 23)), (0, (4, 0)), (1, (4, 1)), (2, (1, 1))]) (stN := [(1, 0), (1, 2), (0, 2), (4, 23)]) (hsN := [jzS_251, (101, [], [0, 0, 0, t, 0, 0]), jgh, jgh, jgh, jgh, jgh, (130, [], [17, 18, 19, 20, 21, 22]), jgh, jgh, jgh, jgh, jgh, jgh, jgh, jgh, jgh, (100, [], (jenc (jlg 0))), (100, [], (jenc (jlg 1))), (100, [], (jenc (jlg 2))), (100, [], (jenc (jlg 3))), (100, [], (jenc (jlg 4))), (100, [], (jenc (jlg 5))), (101, [], [0, 0, 0, 0, 0, 0])]) rfl rfl rfl ?_
  refine jT_xlmul (x := 2) (y := 0) (z := 0) (pcN := 28) jIS_216_27 rfl (by decide) rfl ?_
  refine jT_adv 1 (pcN := 29) (LN := [(5, (0, 2)), (4, (4, 23)), (0, (4, 0)), (1, (4, 1)), (2, (1, 1))]) (stN := []) (hsN := [jzS_251, (101, [], [0, 0, 0, t, 0, 0]), jgh, jgh, jgh, jgh, jgh, (130, [], [17, 18, 19, 20, 21, 22]), jgh, jgh, jgh, jgh, jgh, jgh, jgh, jgh, jgh, (100, [], (jenc (jlg 0))), (100, [], (jenc (jlg 1))), (100, [], (jenc (jlg 2))), (100, [], (jenc (jlg 3))), (100, [], (jenc (jlg 4))), (100, [], (jenc (jlg 5))), (101, [], [0, 0, 0, 0, 0, 0])]) (c1 := 0) (s1 := 0) (c2 := 60) (s2 := 3210) (by exact rfl) ?_ (by omega) (by omega)
  refine jT_xiinc (x := 2) (z := 3) (LN := [(5, (0, 3)), (4, (4, 23)), (0, (4, 0)), (1, (4, 1)), (2, (1, 1))]) (pcN := 32) jIS_216_29 rfl rfl (by decide) rfl rfl ?_
  refine jT_xgoto (pcN := 9) jIS_216_32 rfl ?_
  refine jT_xiload (v := (0, 3)) (pcN := 11) jIS_216_9 rfl rfl rfl ?_
  refine jT_xbipush (k := 6) (pcN := 13) jIS_216_11 (by decide) rfl ?_
  refine jT_xicF (t := 35) (pcN := 16) jIS_216_13 rfl (by decide +kernel) rfl rfl ?_
  refine jT_xaload (v := (4, 23)) (pcN := 18) jIS_216_16 rfl rfl rfl ?_
  refine jT_xiload (v := (0, 3)) (pcN := 20) jIS_216_18 rfl rfl rfl ?_
  refine jT_adv 1 (pcN := 23) (LN := [(5, (0, 3)), (4, (4, 23)), (0, (4, 0)), (1, (4, 1)), (2, (1, 1))]) (stN := [(1, 2), (0, 3), (4, 23)]) (hsN := [jzS_251, (101, [], [0, 0, 0, t, 0, 0]), jgh, jgh, jgh, jgh, jgh, (130, [], [17, 18, 19, 20, 21, 22]), jgh, jgh, jgh, jgh, jgh, jgh, jgh, jgh, jgh, (100, [], (jenc (jlg 0))), (100, [], (jenc (jlg 1))), (100, [], (jenc (jlg 2))), (100, [], (jenc (jlg 3))), (100, [], (jenc (jlg 4))), (100, [], (jenc (jlg 5))), (101, [], [0, 0, 0, 0, 0, 0])]) (c1 := 0) (s1 := 0) (c2 := 60) (s2 := 3210) (by exact rfl) ?_ (by omega) (by omega)
  refine jT_xaload_n (v := (4, 1)) (pcN := 24) jIS_216_23 rfl rfl rfl ?_
  refine jT_xiload (v := (0, 3)) (pcN := 26) jIS_216_24 rfl rfl rfl ?_
  refine jT_lald (x := t) (a := 1) (j := 3) (fs := []) (X := [0, 0, 0, t, 0, 0]) jIS_216_26 rfl rfl rfl rfl ?_
  refine jT_eq (LN := [(5, (0, 3)), (4, (4, 23)), (0, (4, 0)), (1, (4, 1)), (2, (1, 1))]) (stN := [(1, t), (1, 2), (0, 3), (4, 23)]) (hsN := [jzS_251, (101, [], [0, 0, 0, t, 0, 0]), jgh, jgh, jgh, jgh, jgh, (130, [], [17, 18, 19, 20, 21, 22]), jgh, jgh, jgh, jgh, jgh, jgh, jgh, jgh, jgh, (100, [], (jenc (jlg 0))), (100, [], (jenc (jlg 1))), (100, [], (jenc (jlg 2))), (100, [], (jenc (jlg 3))), (100, [], (jenc (jlg 4))), (100, [], (jenc (jlg 5))), (101, [], [0, 0, 0, 0, 0, 0])]) rfl rfl rfl ?_
  refine jT_xlmul (x := 2) (y := t) (z := 2 * t) (pcN := 28) jIS_216_27 rfl (rfl) rfl ?_
  refine jT_adv 1 (pcN := 29) (LN := [(5, (0, 3)), (4, (4, 23)), (0, (4, 0)), (1, (4, 1)), (2, (1, 1))]) (stN := []) (hsN := [jzS_251, (101, [], [0, 0, 0, t, 0, 0]), jgh, jgh, jgh, jgh, jgh, (130, [], [17, 18, 19, 20, 21, 22]), jgh, jgh, jgh, jgh, jgh, jgh, jgh, jgh, jgh, (100, [], (jenc (jlg 0))), (100, [], (jenc (jlg 1))), (100, [], (jenc (jlg 2))), (100, [], (jenc (jlg 3))), (100, [], (jenc (jlg 4))), (100, [], (jenc (jlg 5))), (101, [], [0, 0, 0, 2 * t, 0, 0])]) (c1 := 0) (s1 := 0) (c2 := 60) (s2 := 3210) (by exact rfl) ?_ (by omega) (by omega)
  refine jT_xiinc (x := 3) (z := 4) (LN := [(5, (0, 4)), (4, (4, 23)), (0, (4, 0)), (1, (4, 1)), (2, (1, 1))]) (pcN := 32) jIS_216_29 rfl rfl (by decide) rfl rfl ?_
  refine jT_xgoto (pcN := 9) jIS_216_32 rfl ?_
  refine jT_xiload (v := (0, 4)) (pcN := 11) jIS_216_9 rfl rfl rfl ?_
  refine jT_xbipush (k := 6) (pcN := 13) jIS_216_11 (by decide) rfl ?_
  refine jT_xicF (t := 35) (pcN := 16) jIS_216_13 rfl (by decide +kernel) rfl rfl ?_
  refine jT_xaload (v := (4, 23)) (pcN := 18) jIS_216_16 rfl rfl rfl ?_
  refine jT_xiload (v := (0, 4)) (pcN := 20) jIS_216_18 rfl rfl rfl ?_
  refine jT_adv 1 (pcN := 23) (LN := [(5, (0, 4)), (4, (4, 23)), (0, (4, 0)), (1, (4, 1)), (2, (1, 1))]) (stN := [(1, 2), (0, 4), (4, 23)]) (hsN := [jzS_251, (101, [], [0, 0, 0, t, 0, 0]), jgh, jgh, jgh, jgh, jgh, (130, [], [17, 18, 19, 20, 21, 22]), jgh, jgh, jgh, jgh, jgh, jgh, jgh, jgh, jgh, (100, [], (jenc (jlg 0))), (100, [], (jenc (jlg 1))), (100, [], (jenc (jlg 2))), (100, [], (jenc (jlg 3))), (100, [], (jenc (jlg 4))), (100, [], (jenc (jlg 5))), (101, [], [0, 0, 0, 2 * t, 0, 0])]) (c1 := 0) (s1 := 0) (c2 := 60) (s2 := 3210) (by exact rfl) ?_ (by omega) (by omega)
  refine jT_xaload_n (v := (4, 1)) (pcN := 24) jIS_216_23 rfl rfl rfl ?_
  refine jT_xiload (v := (0, 4)) (pcN := 26) jIS_216_24 rfl rfl rfl ?_
  refine jT_lald (x := 0) (a := 1) (j := 4) (fs := []) (X := [0, 0, 0, t, 0, 0]) jIS_216_26 rfl rfl rfl rfl ?_
  refine jT_eq (LN := [(5, (0, 4)), (4, (4, 23)), (0, (4, 0)), (1, (4, 1)), (2, (1, 1))]) (stN := [(1, 0), (1, 2), (0, 4), (4, 23)]) (hsN := [jzS_251, (101, [], [0, 0, 0, t, 0, 0]), jgh, jgh, jgh, jgh, jgh, (130, [], [17, 18, 19, 20, 21, 22]), jgh, jgh, jgh, jgh, jgh, jgh, jgh, jgh, jgh, (100, [], (jenc (jlg 0))), (100, [], (jenc (jlg 1))), (100, [], (jenc (jlg 2))), (100, [], (jenc (jlg 3))), (100, [], (jenc (jlg 4))), (100, [], (jenc (jlg 5))), (101, [], [0, 0, 0, 2 * t, 0, 0])]) rfl rfl rfl ?_
  refine jT_xlmul (x := 2) (y := 0) (z := 0) (pcN := 28) jIS_216_27 rfl (by decide) rfl ?_
  refine jT_adv 1 (pcN := 29) (LN := [(5, (0, 4)), (4, (4, 23)), (0, (4, 0)), (1, (4, 1)), (2, (1, 1))]) (stN := []) (hsN := [jzS_251, (101, [], [0, 0, 0, t, 0, 0]), jgh, jgh, jgh, jgh, jgh, (130, [], [17, 18, 19, 20, 21, 22]), jgh, jgh, jgh, jgh, jgh, jgh, jgh, jgh, jgh, (100, [], (jenc (jlg 0))), (100, [], (jenc (jlg 1))), (100, [], (jenc (jlg 2))), (100, [], (jenc (jlg 3))), (100, [], (jenc (jlg 4))), (100, [], (jenc (jlg 5))), (101, [], [0, 0, 0, 2 * t, 0, 0])]) (c1 := 0) (s1 := 0) (c2 := 60) (s2 := 3210) (by exact rfl) ?_ (by omega) (by omega)
  refine jT_xiinc (x := 4) (z := 5) (LN := [(5, (0, 5)), (4, (4, 23)), (0, (4, 0)), (1, (4, 1)), (2, (1, 1))]) (pcN := 32) jIS_216_29 rfl rfl (by decide) rfl rfl ?_
  refine jT_xgoto (pcN := 9) jIS_216_32 rfl ?_
  refine jT_xiload (v := (0, 5)) (pcN := 11) jIS_216_9 rfl rfl rfl ?_
  refine jT_xbipush (k := 6) (pcN := 13) jIS_216_11 (by decide) rfl ?_
  refine jT_xicF (t := 35) (pcN := 16) jIS_216_13 rfl (by decide +kernel) rfl rfl ?_
  refine jT_xaload (v := (4, 23)) (pcN := 18) jIS_216_16 rfl rfl rfl ?_
  refine jT_xiload (v := (0, 5)) (pcN := 20) jIS_216_18 rfl rfl rfl ?_
  refine jT_adv 1 (pcN := 23) (LN := [(5, (0, 5)), (4, (4, 23)), (0, (4, 0)), (1, (4, 1)), (2, (1, 1))]) (stN := [(1, 2), (0, 5), (4, 23)]) (hsN := [jzS_251, (101, [], [0, 0, 0, t, 0, 0]), jgh, jgh, jgh, jgh, jgh, (130, [], [17, 18, 19, 20, 21, 22]), jgh, jgh, jgh, jgh, jgh, jgh, jgh, jgh, jgh, (100, [], (jenc (jlg 0))), (100, [], (jenc (jlg 1))), (100, [], (jenc (jlg 2))), (100, [], (jenc (jlg 3))), (100, [], (jenc (jlg 4))), (100, [], (jenc (jlg 5))), (101, [], [0, 0, 0, 2 * t, 0, 0])]) (c1 := 0) (s1 := 0) (c2 := 60) (s2 := 3210) (by exact rfl) ?_ (by omega) (by omega)
  refine jT_xaload_n (v := (4, 1)) (pcN := 24) jIS_216_23 rfl rfl rfl ?_
  refine jT_xiload (v := (0, 5)) (pcN := 26) jIS_216_24 rfl rfl rfl ?_
  refine jT_lald (x := 0) (a := 1) (j := 5) (fs := []) (X := [0, 0, 0, t, 0, 0]) jIS_216_26 rfl rfl rfl rfl ?_
  refine jT_eq (LN := [(5, (0, 5)), (4, (4, 23)), (0, (4, 0)), (1, (4, 1)), (2, (1, 1))]) (stN := [(1, 0), (1, 2), (0, 5), (4, 23)]) (hsN := [jzS_251, (101, [], [0, 0, 0, t, 0, 0]), jgh, jgh, jgh, jgh, jgh, (130, [], [17, 18, 19, 20, 21, 22]), jgh, jgh, jgh, jgh, jgh, jgh, jgh, jgh, jgh, (100, [], (jenc (jlg 0))), (100, [], (jenc (jlg 1))), (100, [], (jenc (jlg 2))), (100, [], (jenc (jlg 3))), (100, [], (jenc (jlg 4))), (100, [], (jenc (jlg 5))), (101, [], [0, 0, 0, 2 * t, 0, 0])]) rfl rfl rfl ?_
  refine jT_xlmul (x := 2) (y := 0) (z := 0) (pcN := 28) jIS_216_27 rfl (by decide) rfl ?_
  refine jT_adv 1 (pcN := 29) (LN := [(5, (0, 5)), (4, (4, 23)), (0, (4, 0)), (1, (4, 1)), (2, (1, 1))]) (stN := []) (hsN := [jzS_251, (101, [], [0, 0, 0, t, 0, 0]), jgh, jgh, jgh, jgh, jgh, (130, [], [17, 18, 19, 20, 21, 22]), jgh, jgh, jgh, jgh, jgh, jgh, jgh, jgh, jgh, (100, [], (jenc (jlg 0))), (100, [], (jenc (jlg 1))), (100, [], (jenc (jlg 2))), (100, [], (jenc (jlg 3))), (100, [], (jenc (jlg 4))), (100, [], (jenc (jlg 5))), (101, [], [0, 0, 0, 2 * t, 0, 0])]) (c1 := 0) (s1 := 0) (c2 := 60) (s2 := 3210) (by exact rfl) ?_ (by omega) (by omega)
  refine jT_xiinc (x := 5) (z := 6) (LN := [(5, (0, 6)), (4, (4, 23)), (0, (4, 0)), (1, (4, 1)), (2, (1, 1))]) (pcN := 32) jIS_216_29 rfl rfl (by decide) rfl rfl ?_
  refine jT_xgoto (pcN := 9) jIS_216_32 rfl ?_
  refine jT_xiload (v := (0, 6)) (pcN := 11) jIS_216_9 rfl rfl rfl ?_
  refine jT_xbipush (k := 6) (pcN := 13) jIS_216_11 (by decide) rfl ?_
  refine jT_xicT (pcN := 35) jIS_216_13 rfl (by decide +kernel) rfl ?_
  refine jT_xaload (v := (4, 23)) (pcN := 37) jIS_216_35 rfl rfl rfl ?_
  refine jT_xiconst (k := 0) (pcN := 38) jIS_216_37 rfl ?_
  refine jT_adv 1 (pcN := 39) (LN := [(5, (0, 6)), (4, (4, 23)), (0, (4, 0)), (1, (4, 1)), (2, (1, 1))]) (stN := [(0, 0), (4, 23), (0, 0), (4, 23)]) (hsN := [jzS_251, (101, [], [0, 0, 0, t, 0, 0]), jgh, jgh, jgh, jgh, jgh, (130, [], [17, 18, 19, 20, 21, 22]), jgh, jgh, jgh, jgh, jgh, jgh, jgh, jgh, jgh, (100, [], (jenc (jlg 0))), (100, [], (jenc (jlg 1))), (100, [], (jenc (jlg 2))), (100, [], (jenc (jlg 3))), (100, [], (jenc (jlg 4))), (100, [], (jenc (jlg 5))), (101, [], [0, 0, 0, 2 * t, 0, 0])]) (c1 := 0) (s1 := 0) (c2 := 60) (s2 := 3210) (by exact rfl) ?_ (by omega) (by omega)
  refine jT_lald (x := 0) (a := 23) (j := 0) (fs := []) (X := [0, 0, 0, 2 * t, 0, 0]) jIS_216_39 rfl rfl rfl rfl ?_
  refine jT_eq (LN := [(5, (0, 6)), (4, (4, 23)), (0, (4, 0)), (1, (4, 1)), (2, (1, 1))]) (stN := [(1, 0), (0, 0), (4, 23)]) (hsN := [jzS_251, (101, [], [0, 0, 0, t, 0, 0]), jgh, jgh, jgh, jgh, jgh, (130, [], [17, 18, 19, 20, 21, 22]), jgh, jgh, jgh, jgh, jgh, jgh, jgh, jgh, jgh, (100, [], (jenc (jlg 0))), (100, [], (jenc (jlg 1))), (100, [], (jenc (jlg 2))), (100, [], (jenc (jlg 3))), (100, [], (jenc (jlg 4))), (100, [], (jenc (jlg 5))), (101, [], [0, 0, 0, 2 * t, 0, 0])]) rfl rfl rfl ?_
  refine jT_xlload_n (v := (1, 1)) (pcN := 41) jIS_216_40 rfl rfl rfl ?_
  refine jT_xladd (x := 0) (y := 1) (z := 1) (pcN := 42) jIS_216_41 rfl (by decide) rfl ?_
  refine jT_adv 1 (pcN := 43) (LN := [(5, (0, 6)), (4, (4, 23)), (0, (4, 0)), (1, (4, 1)), (2, (1, 1))]) (stN := []) (hsN := [jzS_251, (101, [], [0, 0, 0, t, 0, 0]), jgh, jgh, jgh, jgh, jgh, (130, [], [17, 18, 19, 20, 21, 22]), jgh, jgh, jgh, jgh, jgh, jgh, jgh, jgh, jgh, (100, [], (jenc (jlg 0))), (100, [], (jenc (jlg 1))), (100, [], (jenc (jlg 2))), (100, [], (jenc (jlg 3))), (100, [], (jenc (jlg 4))), (100, [], (jenc (jlg 5))), (101, [], [1, 0, 0, 2 * t, 0, 0])]) (c1 := 0) (s1 := 0) (c2 := 60) (s2 := 3210) (by exact rfl) ?_ (by omega) (by omega)
  refine jT_xaload_n (v := (4, 0)) (pcN := 44) jIS_216_43 rfl rfl rfl ?_
  refine jT_xaload (v := (4, 23)) (pcN := 46) jIS_216_44 rfl rfl rfl ?_
  refine jT_adv 1 (pcN := 49) (LN := [(5, (0, 6)), (4, (4, 23)), (0, (4, 0)), (1, (4, 1)), (2, (1, 1))]) (stN := [(1, 2), (4, 23), (4, 0)]) (hsN := [jzS_251, (101, [], [0, 0, 0, t, 0, 0]), jgh, jgh, jgh, jgh, jgh, (130, [], [17, 18, 19, 20, 21, 22]), jgh, jgh, jgh, jgh, jgh, jgh, jgh, jgh, jgh, (100, [], (jenc (jlg 0))), (100, [], (jenc (jlg 1))), (100, [], (jenc (jlg 2))), (100, [], (jenc (jlg 3))), (100, [], (jenc (jlg 4))), (100, [], (jenc (jlg 5))), (101, [], [1, 0, 0, 2 * t, 0, 0])]) (c1 := 0) (s1 := 0) (c2 := 60) (s2 := 3210) (by exact rfl) ?_ (by omega) (by omega)
  refine jT_xlload_n (v := (1, 1)) (pcN := 50) jIS_216_49 rfl rfl rfl ?_
  refine jT_xlmul (x := 2) (y := 1) (z := 2) (pcN := 51) jIS_216_50 rfl (by decide) rfl ?_
  refine jT_callA [0, 23, 2, 3, 4, 5, 6, 7, 8, 9, 10, 11, 12, 13, 14, 15, 16, 17, 18, 19, 20, 21, 22] (y := 210) (pcN := 54) (dC := 5) (bc1 := 60) (bc2 := 3210) (c1 := 0) (c2 := 0) (as := [(4, 0), (4, 23), (1, 2)]) (asC := [(4, 0), (4, 1), (1, 2)]) (LN := [(5, (0, 6)), (4, (4, 23)), (0, (4, 0)), (1, (4, 1)), (2, (1, 1))]) (stN := []) (hsC := [jzS_251, (101, [], [1, 0, 0, 2 * t, 0, 0]), jgh, jgh, jgh, jgh, jgh, (130, [], [17, 18, 19, 20, 21, 22]), jgh, jgh, jgh, jgh, jgh, jgh, jgh, jgh, jgh, (100, [], (jenc (jlg 0))), (100, [], (jenc (jlg 1))), (100, [], (jenc (jlg 2))), (100, [], (jenc (jlg 3))), (100, [], (jenc (jlg 4))), (100, [], (jenc (jlg 5)))]) (ex := []) (v := (1, jbp3 t)) (st2 := [(1, jbp3 t)]) (hs2 := [jzS_251, (101, [], [0, 0, 0, t, 0, 0]), jgh, jgh, jgh, jgh, jgh, (130, [], [17, 18, 19, 20, 21, 22]), jgh, jgh, jgh, jgh, jgh, jgh, jgh, jgh, jgh, (100, [], (jenc (jlg 0))), (100, [], (jenc (jlg 1))), (100, [], (jenc (jlg 2))), (100, [], (jenc (jlg 3))), (100, [], (jenc (jlg 4))), (100, [], (jenc (jlg 5))), (101, [], [1, 0, 0, 2 * t, 0, 0])]) (jSl_ps_211 (d := 0) (by omega)) (by rfl) (by rfl) (by rfl) (by rfl) ⟨rfl, rfl, rfl, rfl, rfl, rfl, rfl, rfl, rfl, rfl, rfl, rfl, rfl, rfl, rfl, rfl, rfl, rfl, rfl, rfl, rfl, rfl, rfl, trivial⟩ (by rfl) (by rfl) (by omega) (by show 23 ≤ 24; omega) (by omega) (by omega) rfl rfl ?_
  have hb_q1 := jbp_b3 (p := t) (by omega)
  generalize hq_q1 : jbp3 t = q1 at hb_q1 ⊢
  refine jT_loc (LN := [(5, (0, 6))]) (by show List.Nodup [5]; decide) (by intro q hq; simp only [List.mem_cons, List.not_mem_nil, or_false] at hq; rcases hq with rfl <;> rfl) ?_
  refine jT_drop 23 (hs0 := [jzS_251, (101, [], [0, 0, 0, t, 0, 0]), jgh, jgh, jgh, jgh, jgh, (130, [], [17, 18, 19, 20, 21, 22]), jgh, jgh, jgh, jgh, jgh, jgh, jgh, jgh, jgh, (100, [], (jenc (jlg 0))), (100, [], (jenc (jlg 1))), (100, [], (jenc (jlg 2))), (100, [], (jenc (jlg 3))), (100, [], (jenc (jlg 4))), (100, [], (jenc (jlg 5)))]) (ex := [(101, [], [1, 0, 0, 2 * t, 0, 0])]) rfl rfl rfl (by decide) ?_
  subst hq_q1
  exact jT_ret rfl (by decide) (by show 23 ≤ 23; omega) (by omega) (by omega) ⟨rfl, rfl, rfl⟩
theorem jS_297_213 {xs : List Int} {d : Nat} {t : Int} (h_t : 1 ≤ t ∧ t ≤ 60) (g_0 : t - 61 < 0) : jT xs (d + 7) 297 22 0 [(0, (4, 0)), (1, (0, t)), (2, (0, 3))] [] jpS_447 62 3222 (fun k v hsN => k = 0 ∧ v = (0, jbp3 t) ∧ hsN = jpS_447 ++ []) := by
  refine jT_xbipush (k := 6) (pcN := 2) jIS_297_0 (by decide) rfl ?_
  refine jT_adv 1 (pcN := 4) (LN := [(0, (4, 0)), (1, (0, t)), (2, (0, 3))]) (stN := [(4, 22)]) (hsN := jpS_437) (c1 := 1) (s1 := 6) (c2 := 61) (s2 := 3216) (by exact rfl) ?_ (by omega) (by omega)
  refine jT_xastore_n (v := (4, 22)) (LN := [(3, (4, 22)), (0, (4, 0)), (1, (0, t)), (2, (0, 3))]) (pcN := 5) jIS_297_4 rfl rfl rfl rfl ?_
  refine jT_xaload_n (v := (4, 22)) (pcN := 6) jIS_297_5 rfl rfl rfl ?_
  refine jT_xiload_n (v := (0, 3)) (pcN := 7) jIS_297_6 rfl rfl rfl ?_
  refine jT_xiload_n (v := (0, t)) (pcN := 8) jIS_297_7 rfl rfl rfl ?_
  refine jT_xi2l (x := t) (z := t) (pcN := 9) jIS_297_8 rfl (jw_idd (by omega) (by omega)) rfl ?_
  refine jT_adv 1 (pcN := 10) (LN := [(3, (4, 22)), (0, (4, 0)), (1, (0, t)), (2, (0, 3))]) (stN := []) (hsN := [jzS_244, jgh, jgh, jgh, jgh, jgh, (130, [], [16, 17, 18, 19, 20, 21]), jgh, jgh, jgh, jgh, jgh, jgh, jgh, jgh, jgh, (100, [], (jenc (jlg 0))), (100, [], (jenc (jlg 1))), (100, [], (jenc (jlg 2))), (100, [], (jenc (jlg 3))), (100, [], (jenc (jlg 4))), (100, [], (jenc (jlg 5))), (101, [], [0, 0, 0, t, 0, 0])]) (c1 := 0) (s1 := 0) (c2 := 61) (s2 := 3216) (by exact rfl) ?_ (by omega) (by omega)
  refine jT_xaload_n (v := (4, 0)) (pcN := 11) jIS_297_10 rfl rfl rfl ?_
  refine jT_xaload_n (v := (4, 22)) (pcN := 12) jIS_297_11 rfl rfl rfl ?_
  refine jT_xlconst (z := 1) (pcN := 13) jIS_297_12 rfl rfl ?_
  refine jT_callA [0, 22, 1, 2, 3, 4, 5, 6, 7, 8, 9, 10, 11, 12, 13, 14, 15, 16, 17, 18, 19, 20, 21] (y := 216) (pcN := 16) (dC := 6) (bc1 := 61) (bc2 := 3216) (c1 := 0) (c2 := 0) (as := [(4, 0), (4, 22), (1, 1)]) (asC := [(4, 0), (4, 1), (1, 1)]) (LN := [(3, (4, 22)), (0, (4, 0)), (1, (0, t)), (2, (0, 3))]) (stN := []) (hsC := [jzS_251, (101, [], [0, 0, 0, t, 0, 0]), jgh, jgh, jgh, jgh, jgh, (130, [], [17, 18, 19, 20, 21, 22]), jgh, jgh, jgh, jgh, jgh, jgh, jgh, jgh, jgh, (100, [], (jenc (jlg 0))), (100, [], (jenc (jlg 1))), (100, [], (jenc (jlg 2))), (100, [], (jenc (jlg 3))), (100, [], (jenc (jlg 4))), (100, [], (jenc (jlg 5)))]) (ex := []) (v := (1, jbp3 t)) (st2 := [(1, jbp3 t)]) (hs2 := [jzS_244, jgh, jgh, jgh, jgh, jgh, (130, [], [16, 17, 18, 19, 20, 21]), jgh, jgh, jgh, jgh, jgh, jgh, jgh, jgh, jgh, (100, [], (jenc (jlg 0))), (100, [], (jenc (jlg 1))), (100, [], (jenc (jlg 2))), (100, [], (jenc (jlg 3))), (100, [], (jenc (jlg 4))), (100, [], (jenc (jlg 5))), (101, [], [0, 0, 0, t, 0, 0])]) (jS_216_212 (d := 0) (by omega) (by omega)) (by rfl) (by rfl) (by rfl) (by rfl) ⟨rfl, rfl, rfl, rfl, rfl, rfl, rfl, rfl, rfl, rfl, rfl, rfl, rfl, rfl, rfl, rfl, rfl, rfl, rfl, rfl, rfl, rfl, rfl, trivial⟩ (by rfl) (by rfl) (by omega) (by show 22 ≤ 23; omega) (by omega) (by omega) rfl rfl ?_
  have hb_q1 := jbp_b3 (p := t) (by omega)
  generalize hq_q1 : jbp3 t = q1 at hb_q1 ⊢
  refine jT_xl2i (pcN := 17) jIS_297_16 rfl rfl ?_
  refine jT_loc (LN := [(0, (4, 0))]) (by show List.Nodup [0]; decide) (by intro q hq; simp only [List.mem_cons, List.not_mem_nil, or_false] at hq; rcases hq with rfl <;> rfl) ?_
  refine jT_drop 22 (hs0 := jpS_447) (ex := [(101, [], [0, 0, 0, t, 0, 0])]) rfl rfl rfl (by decide) ?_
  subst hq_q1
  exact jT_ret rfl (by decide) (by show 22 ≤ 22; omega) (by omega) (by omega) ⟨rfl, rfl, rfl⟩
theorem jSl_ro_214 {xs : List Int} {d : Nat} {t : Int} (h_t : 1 ≤ t ∧ t ≤ 60) {d1 d2 d3 d4 : Int} (fd1 : ((FP.l2d (Int64.ofInt (2 * t))).toNat : Int) = d1) (fd2 : jn64 (FP.dmul (ju64 4614972366274321729) (ju64 d1)) = true ∧ ((FP.dmul (ju64 4614972366274321729) (ju64 d1)).toNat : Int) = d2) (fd3 : jn64 (FP.dadd (ju64 4607182418800017408) (ju64 d2)) = true ∧ ((FP.dadd (ju64 4607182418800017408) (ju64 d2)).toNat : Int) = d3) (fd4 : jn64 (FP.dadd (ju64 d3) (ju64 0)) = true ∧ ((FP.dadd (ju64 d3) (ju64 0)).toNat : Int) = d4) : jT xs d 211 1 0 [(0, (4, 0))] [] [(101, [], [1, 0, 0, 0, 2 * t, 0])] 0 0 (fun k v hsN => k = 0 ∧ v = (3, d4) ∧ hsN = [(101, [], [1, 0, 0, 0, 2 * t, 0])]) := by
  refine jT_xaload_n (v := (4, 0)) (pcN := 1) jIS_211_0 rfl rfl rfl ?_
  refine jT_xiconst (k := 0) (pcN := 2) jIS_211_1 rfl ?_
  refine jT_lald (x := 1) (a := 0) (j := 0) (fs := []) (X := [1, 0, 0, 0, 2 * t, 0]) jIS_211_2 rfl rfl rfl rfl ?_
  refine jT_eq (LN := [(0, (4, 0))]) (stN := [(1, 1)]) (hsN := [(101, [], [1, 0, 0, 0, 2 * t, 0])]) rfl rfl rfl ?_
  refine jT_l2d (x := 1) (z := 4607182418800017408) (by rfl) (by rfl) (by decide +kernel) ?_
  refine jT_adv 1 (pcN := 7) (LN := [(0, (4, 0))]) (stN := [(3, 4609816855700290920), (3, 4607182418800017408)]) (hsN := [(101, [], [1, 0, 0, 0, 2 * t, 0])]) (c1 := 0) (s1 := 0) (c2 := 0) (s2 := 0) (by exact rfl) ?_ (by omega) (by omega)
  refine jT_xaload_n (v := (4, 0)) (pcN := 8) jIS_211_7 rfl rfl rfl ?_
  refine jT_xiconst (k := 1) (pcN := 9) jIS_211_8 rfl ?_
  refine jT_lald (x := 0) (a := 0) (j := 1) (fs := []) (X := [1, 0, 0, 0, 2 * t, 0]) jIS_211_9 rfl rfl rfl rfl ?_
  refine jT_eq (LN := [(0, (4, 0))]) (stN := [(1, 0), (3, 4609816855700290920), (3, 4607182418800017408)]) (hsN := [(101, [], [1, 0, 0, 0, 2 * t, 0])]) rfl rfl rfl ?_
  refine jT_l2d (x := 0) (z := 0) (by rfl) (by rfl) (by decide +kernel) ?_
  refine jT_dmul (x := 4609816855700290920) (y := 0) (z := 0) (by rfl) (by rfl) (by decide +kernel) ?_
  refine jT_dadd (x := 4607182418800017408) (y := 0) (z := 4607182418800017408) (by rfl) (by rfl) (by decide +kernel) ?_
  refine jT_adv 1 (pcN := 16) (LN := [(0, (4, 0))]) (stN := [(3, 4612410936051475313), (3, 4607182418800017408)]) (hsN := [(101, [], [1, 0, 0, 0, 2 * t, 0])]) (c1 := 0) (s1 := 0) (c2 := 0) (s2 := 0) (by exact rfl) ?_ (by omega) (by omega)
  refine jT_xaload_n (v := (4, 0)) (pcN := 17) jIS_211_16 rfl rfl rfl ?_
  refine jT_xiconst (k := 2) (pcN := 18) jIS_211_17 rfl ?_
  refine jT_lald (x := 0) (a := 0) (j := 2) (fs := []) (X := [1, 0, 0, 0, 2 * t, 0]) jIS_211_18 rfl rfl rfl rfl ?_
  refine jT_eq (LN := [(0, (4, 0))]) (stN := [(1, 0), (3, 4612410936051475313), (3, 4607182418800017408)]) (hsN := [(101, [], [1, 0, 0, 0, 2 * t, 0])]) rfl rfl rfl ?_
  refine jT_l2d (x := 0) (z := 0) (by rfl) (by rfl) (by decide +kernel) ?_
  refine jT_dmul (x := 4612410936051475313) (y := 0) (z := 0) (by rfl) (by rfl) (by decide +kernel) ?_
  refine jT_dadd (x := 4607182418800017408) (y := 0) (z := 4607182418800017408) (by rfl) (by rfl) (by decide +kernel) ?_
  refine jT_adv 1 (pcN := 25) (LN := [(0, (4, 0))]) (stN := [(3, 4613504020090455085), (3, 4607182418800017408)]) (hsN := [(101, [], [1, 0, 0, 0, 2 * t, 0])]) (c1 := 0) (s1 := 0) (c2 := 0) (s2 := 0) (by exact rfl) ?_ (by omega) (by omega)
  refine jT_xaload_n (v := (4, 0)) (pcN := 26) jIS_211_25 rfl rfl rfl ?_
  refine jT_xiconst (k := 3) (pcN := 27) jIS_211_26 rfl ?_
  refine jT_lald (x := 0) (a := 0) (j := 3) (fs := []) (X := [1, 0, 0, 0, 2 * t, 0]) jIS_211_27 rfl rfl rfl rfl ?_
  refine jT_eq (LN := [(0, (4, 0))]) (stN := [(1, 0), (3, 4613504020090455085), (3, 4607182418800017408)]) (hsN := [(101, [], [1, 0, 0, 0, 2 * t, 0])]) rfl rfl rfl ?_
  refine jT_l2d (x := 0) (z := 0) (by rfl) (by rfl) (by decide +kernel) ?_
  refine jT_dmul (x := 4613504020090455085) (y := 0) (z := 0) (by rfl) (by rfl) (by decide +kernel) ?_
  refine jT_dadd (x := 4607182418800017408) (y := 0) (z := 4607182418800017408) (by rfl) (by rfl) (by decide +kernel) ?_
  refine jT_adv 1 (pcN := 34) (LN := [(0, (4, 0))]) (stN := [(3, 4614972366274321729), (3, 4607182418800017408)]) (hsN := [(101, [], [1, 0, 0, 0, 2 * t, 0])]) (c1 := 0) (s1 := 0) (c2 := 0) (s2 := 0) (by exact rfl) ?_ (by omega) (by omega)
  refine jT_xaload_n (v := (4, 0)) (pcN := 35) jIS_211_34 rfl rfl rfl ?_
  refine jT_xiconst (k := 4) (pcN := 36) jIS_211_35 rfl ?_
  refine jT_lald (x := 2 * t) (a := 0) (j := 4) (fs := []) (X := [1, 0, 0, 0, 2 * t, 0]) jIS_211_36 rfl rfl rfl rfl ?_
  refine jT_eq (LN := [(0, (4, 0))]) (stN := [(1, 2 * t), (3, 4614972366274321729), (3, 4607182418800017408)]) (hsN := [(101, [], [1, 0, 0, 0, 2 * t, 0])]) rfl rfl rfl ?_
  refine jT_l2d (x := 2 * t) (z := d1) (by rfl) (by rfl) fd1 ?_
  refine jT_dmul (x := 4614972366274321729) (y := d1) (z := d2) (by rfl) (by rfl) fd2 ?_
  refine jT_dadd (x := 4607182418800017408) (y := d2) (z := d3) (by rfl) (by rfl) fd3 ?_
  refine jT_adv 1 (pcN := 43) (LN := [(0, (4, 0))]) (stN := [(3, 4615515068267881011), (3, d3)]) (hsN := [(101, [], [1, 0, 0, 0, 2 * t, 0])]) (c1 := 0) (s1 := 0) (c2 := 0) (s2 := 0) (by exact rfl) ?_ (by omega) (by omega)
  refine jT_xaload_n (v := (4, 0)) (pcN := 44) jIS_211_43 rfl rfl rfl ?_
  refine jT_xiconst (k := 5) (pcN := 45) jIS_211_44 rfl ?_
  refine jT_lald (x := 0) (a := 0) (j := 5) (fs := []) (X := [1, 0, 0, 0, 2 * t, 0]) jIS_211_45 rfl rfl rfl rfl ?_
  refine jT_eq (LN := [(0, (4, 0))]) (stN := [(1, 0), (3, 4615515068267881011), (3, d3)]) (hsN := [(101, [], [1, 0, 0, 0, 2 * t, 0])]) rfl rfl rfl ?_
  refine jT_l2d (x := 0) (z := 0) (by rfl) (by rfl) (by decide +kernel) ?_
  refine jT_dmul (x := 4615515068267881011) (y := 0) (z := 0) (by rfl) (by rfl) (by decide +kernel) ?_
  refine jT_dadd (x := d3) (y := 0) (z := d4) (by rfl) (by rfl) fd4 ?_
  exact jT_ret rfl (by decide) (by show 1 ≤ 1; decide) (by omega) (by omega) ⟨rfl, rfl, rfl⟩
theorem jS_212_216 {xs : List Int} {d : Nat} {N t : Int} (h_N : (-1099511627776) ≤ N ∧ N ≤ 1099511627776) (h_t : 1 ≤ t ∧ t ≤ 60) : jT xs (d + 4) 212 23 0 [(0, (4, 0)), (1, (4, 1)), (2, (1, 2 * N + 2))] [] [jzS_251, (101, [], [1, 0, 0, 0, 2 * t, 0]), jgh, jgh, jgh, jgh, jgh, (130, [], [17, 18, 19, 20, 21, 22]), jgh, jgh, jgh, jgh, jgh, jgh, jgh, jgh, jgh, (100, [], (jenc (jlg 0))), (100, [], (jenc (jlg 1))), (100, [], (jenc (jlg 2))), (100, [], (jenc (jlg 3))), (100, [], (jenc (jlg 4))), (100, [], (jenc (jlg 5)))] 20 1070 (fun k v hsN => k = 0 ∧ v = (0, (jlz ((-2) * N - 1) 0 0 0 (2 * t) 0).sign) ∧ hsN = [jzS_251, (101, [], [1, 0, 0, 0, 2 * t, 0]), jgh, jgh, jgh, jgh, jgh, (130, [], [17, 18, 19, 20, 21, 22]), jgh, jgh, jgh, jgh, jgh, jgh, jgh, jgh, jgh, (100, [], (jenc (jlg 0))), (100, [], (jenc (jlg 1))), (100, [], (jenc (jlg 2))), (100, [], (jenc (jlg 3))), (100, [], (jenc (jlg 4))), (100, [], (jenc (jlg 5)))] ++ []) := by
  refine jT_xbipush (k := 6) (pcN := 2) jIS_212_0 (by decide) rfl ?_
  refine jT_adv 1 (pcN := 4) (LN := [(0, (4, 0)), (1, (4, 1)), (2, (1, 2 * N + 2))]) (stN := [(4, 23)]) (hsN := [jzS_251, (101, [], [1, 0, 0, 0, 2 * t, 0]), jgh, jgh, jgh, jgh, jgh, (130, [], [17, 18, 19, 20, 21, 22]), jgh, jgh, jgh, jgh, jgh, jgh, jgh, jgh, jgh, (100, [], (jenc (jlg 0))), (100, [], (jenc (jlg 1))), (100, [], (jenc (jlg 2))), (100, [], (jenc (jlg 3))), (100, [], (jenc (jlg 4))), (100, [], (jenc (jlg 5))), (101, [], [0, 0, 0, 0, 0, 0])]) (c1 := 1) (s1 := 6) (c2 := 19) (s2 := 1064) (by exact rfl) ?_ (by omega) (by omega)
  refine jT_xastore (v := (4, 23)) (LN := [(4, (4, 23)), (0, (4, 0)), (1, (4, 1)), (2, (1, 2 * N + 2))]) (pcN := 6) jIS_212_4 rfl rfl rfl rfl ?_
  refine jT_xaload_n (v := (4, 1)) (pcN := 7) jIS_212_6 rfl rfl rfl ?_
  refine jT_xiconst (k := 0) (pcN := 8) jIS_212_7 rfl ?_
  refine jT_xaload (v := (4, 23)) (pcN := 10) jIS_212_8 rfl rfl rfl ?_
  refine jT_xiconst (k := 0) (pcN := 11) jIS_212_10 rfl ?_
  refine jT_xbipush (k := 6) (pcN := 13) jIS_212_11 (by decide) rfl ?_
  refine jT_adv 1 (pcN := 16) (LN := [(4, (4, 23)), (0, (4, 0)), (1, (4, 1)), (2, (1, 2 * N + 2))]) (stN := []) (hsN := [jzS_251, (101, [], [1, 0, 0, 0, 2 * t, 0]), jgh, jgh, jgh, jgh, jgh, (130, [], [17, 18, 19, 20, 21, 22]), jgh, jgh, jgh, jgh, jgh, jgh, jgh, jgh, jgh, (100, [], (jenc (jlg 0))), (100, [], (jenc (jlg 1))), (100, [], (jenc (jlg 2))), (100, [], (jenc (jlg 3))), (100, [], (jenc (jlg 4))), (100, [], (jenc (jlg 5))), (101, [], [1, 0, 0, 0, 2 * t, 0])]) (c1 := 0) (s1 := 0) (c2 := 19) (s2 := 1064) (by exact rfl) ?_ (by omega) (by omega)
  refine jT_xaload (v := (4, 23)) (pcN := 18) jIS_212_16 rfl rfl rfl ?_
  refine jT_xiconst (k := 0) (pcN := 19) jIS_212_18 rfl ?_
  refine jT_adv 1 (pcN := 20) (LN := [(4, (4, 23)), (0, (4, 0)), (1, (4, 1)), (2, (1, 2 * N + 2))]) (stN := [(0, 0), (4, 23), (0, 0), (4, 23)]) (hsN := [jzS_251, (101, [], [1, 0, 0, 0, 2 * t, 0]), jgh, jgh, jgh, jgh, jgh, (130, [], [17, 18, 19, 20, 21, 22]), jgh, jgh, jgh, jgh, jgh, jgh, jgh, jgh, jgh, (100, [], (jenc (jlg 0))), (100, [], (jenc (jlg 1))), (100, [], (jenc (jlg 2))), (100, [], (jenc (jlg 3))), (100, [], (jenc (jlg 4))), (100, [], (jenc (jlg 5))), (101, [], [1, 0, 0, 0, 2 * t, 0])]) (c1 := 0) (s1 := 0) (c2 := 19) (s2 := 1064) (by exact rfl) ?_ (by omega) (by omega)
  refine jT_lald (x := 1) (a := 23) (j := 0) (fs := []) (X := [1, 0, 0, 0, 2 * t, 0]) jIS_212_20 rfl rfl rfl rfl ?_
  refine jT_eq (LN := [(4, (4, 23)), (0, (4, 0)), (1, (4, 1)), (2, (1, 2 * N + 2))]) (stN := [(1, 1), (0, 0), (4, 23)]) (hsN := [jzS_251, (101, [], [1, 0, 0, 0, 2 * t, 0]), jgh, jgh, jgh, jgh, jgh, (130, [], [17, 18, 19, 20, 21, 22]), jgh, jgh, jgh, jgh, jgh, jgh, jgh, jgh, jgh, (100, [], (jenc (jlg 0))), (100, [], (jenc (jlg 1))), (100, [], (jenc (jlg 2))), (100, [], (jenc (jlg 3))), (100, [], (jenc (jlg 4))), (100, [], (jenc (jlg 5))), (101, [], [1, 0, 0, 0, 2 * t, 0])]) rfl rfl rfl ?_
  refine jT_xlload_n (v := (1, 2 * N + 2)) (pcN := 22) jIS_212_21 rfl rfl rfl ?_
  refine jT_xlsub (x := 1) (y := 2 * N + 2) (z := (-2) * N - 1) (pcN := 23) jIS_212_22 rfl (by omega) rfl ?_
  refine jT_adv 1 (pcN := 24) (LN := [(4, (4, 23)), (0, (4, 0)), (1, (4, 1)), (2, (1, 2 * N + 2))]) (stN := []) (hsN := [jzS_251, (101, [], [1, 0, 0, 0, 2 * t, 0]), jgh, jgh, jgh, jgh, jgh, (130, [], [17, 18, 19, 20, 21, 22]), jgh, jgh, jgh, jgh, jgh, jgh, jgh, jgh, jgh, (100, [], (jenc (jlg 0))), (100, [], (jenc (jlg 1))), (100, [], (jenc (jlg 2))), (100, [], (jenc (jlg 3))), (100, [], (jenc (jlg 4))), (100, [], (jenc (jlg 5))), (101, [], [(-2) * N - 1, 0, 0, 0, 2 * t, 0])]) (c1 := 0) (s1 := 0) (c2 := 19) (s2 := 1064) (by exact rfl) ?_ (by omega) (by omega)
  refine jT_xaload_n (v := (4, 0)) (pcN := 25) jIS_212_24 rfl rfl rfl ?_
  refine jT_xaload (v := (4, 23)) (pcN := 27) jIS_212_25 rfl rfl rfl ?_
  refine jT_callA [0, 23, 2, 3, 4, 5, 6, 7, 8, 9, 10, 11, 12, 13, 14, 15, 16, 17, 18, 19, 20, 21, 22] (y := 213) (pcN := 30) (dC := 3) (bc1 := 19) (bc2 := 1064) (c1 := 0) (c2 := 0) (as := [(4, 0), (4, 23)]) (asC := [(4, 0), (4, 1)]) (LN := [(4, (4, 23)), (0, (4, 0)), (1, (4, 1)), (2, (1, 2 * N + 2))]) (stN := []) (hsC := [jzS_251, (101, [], [(-2) * N - 1, 0, 0, 0, 2 * t, 0]), jgh, jgh, jgh, jgh, jgh, (130, [], [17, 18, 19, 20, 21, 22]), jgh, jgh, jgh, jgh, jgh, jgh, jgh, jgh, jgh, (100, [], (jenc (jlg 0))), (100, [], (jenc (jlg 1))), (100, [], (jenc (jlg 2))), (100, [], (jenc (jlg 3))), (100, [], (jenc (jlg 4))), (100, [], (jenc (jlg 5)))]) (ex := []) (v := (0, (jlz ((-2) * N - 1) 0 0 0 (2 * t) 0).sign)) (st2 := [(0, (jlz ((-2) * N - 1) 0 0 0 (2 * t) 0).sign)]) (hs2 := [jzS_251, (101, [], [1, 0, 0, 0, 2 * t, 0]), jgh, jgh, jgh, jgh, jgh, (130, [], [17, 18, 19, 20, 21, 22]), jgh, jgh, jgh, jgh, jgh, jgh, jgh, jgh, jgh, (100, [], (jenc (jlg 0))), (100, [], (jenc (jlg 1))), (100, [], (jenc (jlg 2))), (100, [], (jenc (jlg 3))), (100, [], (jenc (jlg 4))), (100, [], (jenc (jlg 5))), (101, [], [(-2) * N - 1, 0, 0, 0, 2 * t, 0])]) (jSl_sg_157 (d := 0) (e0 := (-2) * N - 1) (e1 := 0) (e2 := 0) (e3 := 0) (e4 := 2 * t) (e5 := 0) (by omega) (by omega) (by omega) (by omega) (by omega) (by omega)) (by rfl) (by rfl) (by rfl) (by rfl) ⟨rfl, rfl, rfl, rfl, rfl, rfl, rfl, rfl, rfl, rfl, rfl, rfl, rfl, rfl, rfl, rfl, rfl, rfl, rfl, rfl, rfl, rfl, rfl, trivial⟩ (by rfl) (by rfl) (by omega) (by show 23 ≤ 24; omega) (by omega) (by omega) rfl rfl ?_
  have hb_q1 := jsgn_b (jlz ((-2) * N - 1) 0 0 0 (2 * t) 0)
  generalize hq_q1 : (jlz ((-2) * N - 1) 0 0 0 (2 * t) 0).sign = q1 at hb_q1 ⊢
  refine jT_loc (LN := [(0, (4, 0))]) (by show List.Nodup [0]; decide) (by intro q hq; simp only [List.mem_cons, List.not_mem_nil, or_false] at hq; rcases hq with rfl <;> rfl) ?_
  refine jT_drop 23 (hs0 := [jzS_251, (101, [], [1, 0, 0, 0, 2 * t, 0]), jgh, jgh, jgh, jgh, jgh, (130, [], [17, 18, 19, 20, 21, 22]), jgh, jgh, jgh, jgh, jgh, jgh, jgh, jgh, jgh, (100, [], (jenc (jlg 0))), (100, [], (jenc (jlg 1))), (100, [], (jenc (jlg 2))), (100, [], (jenc (jlg 3))), (100, [], (jenc (jlg 4))), (100, [], (jenc (jlg 5)))]) (ex := [(101, [], [(-2) * N - 1, 0, 0, 0, 2 * t, 0])]) rfl rfl rfl (by decide) ?_
  subst hq_q1
  exact jT_ret rfl (by decide) (by show 23 ≤ 23; omega) (by omega) (by omega) ⟨rfl, rfl, rfl⟩
theorem jS_212_217 {xs : List Int} {d : Nat} {N t : Int} (h_N : (-1099511627776) ≤ N ∧ N ≤ 1099511627776) (h_t : 1 ≤ t ∧ t ≤ 60) (g_0 : (jlz ((-2) * N - 1) 0 0 0 (2 * t) 0).sign < 0) : jT xs (d + 4) 212 23 0 [(0, (4, 0)), (1, (4, 1)), (2, (1, 2 * N + 2))] [] [jzS_251, (101, [], [1, 0, 0, 0, 2 * t, 0]), jgh, jgh, jgh, jgh, jgh, (130, [], [17, 18, 19, 20, 21, 22]), jgh, jgh, jgh, jgh, jgh, jgh, jgh, jgh, jgh, (100, [], (jenc (jlg 0))), (100, [], (jenc (jlg 1))), (100, [], (jenc (jlg 2))), (100, [], (jenc (jlg 3))), (100, [], (jenc (jlg 4))), (100, [], (jenc (jlg 5)))] 20 1070 (fun k v hsN => k = 0 ∧ v = (0, (jlz ((-2) * N - 1) 0 0 0 (2 * t) 0).sign) ∧ hsN = [jzS_251, (101, [], [1, 0, 0, 0, 2 * t, 0]), jgh, jgh, jgh, jgh, jgh, (130, [], [17, 18, 19, 20, 21, 22]), jgh, jgh, jgh, jgh, jgh, jgh, jgh, jgh, jgh, (100, [], (jenc (jlg 0))), (100, [], (jenc (jlg 1))), (100, [], (jenc (jlg 2))), (100, [], (jenc (jlg 3))), (100, [], (jenc (jlg 4))), (100, [], (jenc (jlg 5)))] ++ []) := by
  refine jT_xbipush (k := 6) (pcN := 2) jIS_212_0 (by decide) rfl ?_
  refine jT_adv 1 (pcN := 4) (LN := [(0, (4, 0)), (1, (4, 1)), (2, (1, 2 * N + 2))]) (stN := [(4, 23)]) (hsN := [jzS_251, (101, [], [1, 0, 0, 0, 2 * t, 0]), jgh, jgh, jgh, jgh, jgh, (130, [], [17, 18, 19, 20, 21, 22]), jgh, jgh, jgh, jgh, jgh, jgh, jgh, jgh, jgh, (100, [], (jenc (jlg 0))), (100, [], (jenc (jlg 1))), (100, [], (jenc (jlg 2))), (100, [], (jenc (jlg 3))), (100, [], (jenc (jlg 4))), (100, [], (jenc (jlg 5))), (101, [], [0, 0, 0, 0, 0, 0])]) (c1 := 1) (s1 := 6) (c2 := 19) (s2 := 1064) (by exact rfl) ?_ (by omega) (by omega)
  refine jT_xastore (v := (4, 23)) (LN := [(4, (4, 23)), (0, (4, 0)), (1, (4, 1)), (2, (1, 2 * N + 2))]) (pcN := 6) jIS_212_4 rfl rfl rfl rfl ?_
  refine jT_xaload_n (v := (4, 1)) (pcN := 7) jIS_212_6 rfl rfl rfl ?_
  refine jT_xiconst (k := 0) (pcN := 8) jIS_212_7 rfl ?_
  refine jT_xaload (v := (4, 23)) (pcN := 10) jIS_212_8 rfl rfl rfl ?_
  refine jT_xiconst (k := 0) (pcN := 11) jIS_212_10 rfl ?_
  refine jT_xbipush (k := 6) (pcN := 13) jIS_212_11 (by decide) rfl ?_
  refine jT_adv 1 (pcN := 16) (LN := [(4, (4, 23)), (0, (4, 0)), (1, (4, 1)), (2, (1, 2 * N + 2))]) (stN := []) (hsN := [jzS_251, (101, [], [1, 0, 0, 0, 2 * t, 0]), jgh, jgh, jgh, jgh, jgh, (130, [], [17, 18, 19, 20, 21, 22]), jgh, jgh, jgh, jgh, jgh, jgh, jgh, jgh, jgh, (100, [], (jenc (jlg 0))), (100, [], (jenc (jlg 1))), (100, [], (jenc (jlg 2))), (100, [], (jenc (jlg 3))), (100, [], (jenc (jlg 4))), (100, [], (jenc (jlg 5))), (101, [], [1, 0, 0, 0, 2 * t, 0])]) (c1 := 0) (s1 := 0) (c2 := 19) (s2 := 1064) (by exact rfl) ?_ (by omega) (by omega)
  refine jT_xaload (v := (4, 23)) (pcN := 18) jIS_212_16 rfl rfl rfl ?_
  refine jT_xiconst (k := 0) (pcN := 19) jIS_212_18 rfl ?_
  refine jT_adv 1 (pcN := 20) (LN := [(4, (4, 23)), (0, (4, 0)), (1, (4, 1)), (2, (1, 2 * N + 2))]) (stN := [(0, 0), (4, 23), (0, 0), (4, 23)]) (hsN := [jzS_251, (101, [], [1, 0, 0, 0, 2 * t, 0]), jgh, jgh, jgh, jgh, jgh, (130, [], [17, 18, 19, 20, 21, 22]), jgh, jgh, jgh, jgh, jgh, jgh, jgh, jgh, jgh, (100, [], (jenc (jlg 0))), (100, [], (jenc (jlg 1))), (100, [], (jenc (jlg 2))), (100, [], (jenc (jlg 3))), (100, [], (jenc (jlg 4))), (100, [], (jenc (jlg 5))), (101, [], [1, 0, 0, 0, 2 * t, 0])]) (c1 := 0) (s1 := 0) (c2 := 19) (s2 := 1064) (by exact rfl) ?_ (by omega) (by omega)
  refine jT_lald (x := 1) (a := 23) (j := 0) (fs := []) (X := [1, 0, 0, 0, 2 * t, 0]) jIS_212_20 rfl rfl rfl rfl ?_
  refine jT_eq (LN := [(4, (4, 23)), (0, (4, 0)), (1, (4, 1)), (2, (1, 2 * N + 2))]) (stN := [(1, 1), (0, 0), (4, 23)]) (hsN := [jzS_251, (101, [], [1, 0, 0, 0, 2 * t, 0]), jgh, jgh, jgh, jgh, jgh, (130, [], [17, 18, 19, 20, 21, 22]), jgh, jgh, jgh, jgh, jgh, jgh, jgh, jgh, jgh, (100, [], (jenc (jlg 0))), (100, [], (jenc (jlg 1))), (100, [], (jenc (jlg 2))), (100, [], (jenc (jlg 3))), (100, [], (jenc (jlg 4))), (100, [], (jenc (jlg 5))), (101, [], [1, 0, 0, 0, 2 * t, 0])]) rfl rfl rfl ?_
  refine jT_xlload_n (v := (1, 2 * N + 2)) (pcN := 22) jIS_212_21 rfl rfl rfl ?_
  refine jT_xlsub (x := 1) (y := 2 * N + 2) (z := (-2) * N - 1) (pcN := 23) jIS_212_22 rfl (by omega) rfl ?_
  refine jT_adv 1 (pcN := 24) (LN := [(4, (4, 23)), (0, (4, 0)), (1, (4, 1)), (2, (1, 2 * N + 2))]) (stN := []) (hsN := [jzS_251, (101, [], [1, 0, 0, 0, 2 * t, 0]), jgh, jgh, jgh, jgh, jgh, (130, [], [17, 18, 19, 20, 21, 22]), jgh, jgh, jgh, jgh, jgh, jgh, jgh, jgh, jgh, (100, [], (jenc (jlg 0))), (100, [], (jenc (jlg 1))), (100, [], (jenc (jlg 2))), (100, [], (jenc (jlg 3))), (100, [], (jenc (jlg 4))), (100, [], (jenc (jlg 5))), (101, [], [(-2) * N - 1, 0, 0, 0, 2 * t, 0])]) (c1 := 0) (s1 := 0) (c2 := 19) (s2 := 1064) (by exact rfl) ?_ (by omega) (by omega)
  refine jT_xaload_n (v := (4, 0)) (pcN := 25) jIS_212_24 rfl rfl rfl ?_
  refine jT_xaload (v := (4, 23)) (pcN := 27) jIS_212_25 rfl rfl rfl ?_
  refine jT_callA [0, 23, 2, 3, 4, 5, 6, 7, 8, 9, 10, 11, 12, 13, 14, 15, 16, 17, 18, 19, 20, 21, 22] (y := 213) (pcN := 30) (dC := 3) (bc1 := 19) (bc2 := 1064) (c1 := 0) (c2 := 0) (as := [(4, 0), (4, 23)]) (asC := [(4, 0), (4, 1)]) (LN := [(4, (4, 23)), (0, (4, 0)), (1, (4, 1)), (2, (1, 2 * N + 2))]) (stN := []) (hsC := [jzS_251, (101, [], [(-2) * N - 1, 0, 0, 0, 2 * t, 0]), jgh, jgh, jgh, jgh, jgh, (130, [], [17, 18, 19, 20, 21, 22]), jgh, jgh, jgh, jgh, jgh, jgh, jgh, jgh, jgh, (100, [], (jenc (jlg 0))), (100, [], (jenc (jlg 1))), (100, [], (jenc (jlg 2))), (100, [], (jenc (jlg 3))), (100, [], (jenc (jlg 4))), (100, [], (jenc (jlg 5)))]) (ex := []) (v := (0, (jlz ((-2) * N - 1) 0 0 0 (2 * t) 0).sign)) (st2 := [(0, (jlz ((-2) * N - 1) 0 0 0 (2 * t) 0).sign)]) (hs2 := [jzS_251, (101, [], [1, 0, 0, 0, 2 * t, 0]), jgh, jgh, jgh, jgh, jgh, (130, [], [17, 18, 19, 20, 21, 22]), jgh, jgh, jgh, jgh, jgh, jgh, jgh, jgh, jgh, (100, [], (jenc (jlg 0))), (100, [], (jenc (jlg 1))), (100, [], (jenc (jlg 2))), (100, [], (jenc (jlg 3))), (100, [], (jenc (jlg 4))), (100, [], (jenc (jlg 5))), (101, [], [(-2) * N - 1, 0, 0, 0, 2 * t, 0])]) (jSl_sg_157 (d := 0) (e0 := (-2) * N - 1) (e1 := 0) (e2 := 0) (e3 := 0) (e4 := 2 * t) (e5 := 0) (by omega) (by omega) (by omega) (by omega) (by omega) (by omega)) (by rfl) (by rfl) (by rfl) (by rfl) ⟨rfl, rfl, rfl, rfl, rfl, rfl, rfl, rfl, rfl, rfl, rfl, rfl, rfl, rfl, rfl, rfl, rfl, rfl, rfl, rfl, rfl, rfl, rfl, trivial⟩ (by rfl) (by rfl) (by omega) (by show 23 ≤ 24; omega) (by omega) (by omega) rfl rfl ?_
  have hb_q1 := jsgn_b (jlz ((-2) * N - 1) 0 0 0 (2 * t) 0)
  generalize hq_q1 : (jlz ((-2) * N - 1) 0 0 0 (2 * t) 0).sign = q1 at hb_q1 g_0 ⊢
  refine jT_loc (LN := [(0, (4, 0))]) (by show List.Nodup [0]; decide) (by intro q hq; simp only [List.mem_cons, List.not_mem_nil, or_false] at hq; rcases hq with rfl <;> rfl) ?_
  refine jT_drop 23 (hs0 := [jzS_251, (101, [], [1, 0, 0, 0, 2 * t, 0]), jgh, jgh, jgh, jgh, jgh, (130, [], [17, 18, 19, 20, 21, 22]), jgh, jgh, jgh, jgh, jgh, jgh, jgh, jgh, jgh, (100, [], (jenc (jlg 0))), (100, [], (jenc (jlg 1))), (100, [], (jenc (jlg 2))), (100, [], (jenc (jlg 3))), (100, [], (jenc (jlg 4))), (100, [], (jenc (jlg 5)))]) (ex := [(101, [], [(-2) * N - 1, 0, 0, 0, 2 * t, 0])]) rfl rfl rfl (by decide) ?_
  subst hq_q1
  exact jT_ret rfl (by decide) (by show 23 ≤ 23; omega) (by omega) (by omega) ⟨rfl, rfl, rfl⟩
theorem jS_212_218 {xs : List Int} {d : Nat} {N t : Int} (h_N : (-1099511627776) ≤ N ∧ N ≤ 1099511627776) (h_t : 1 ≤ t ∧ t ≤ 60) : jT xs (d + 4) 212 23 0 [(0, (4, 0)), (1, (4, 1)), (2, (1, 2 * N))] [] [jzS_251, (101, [], [1, 0, 0, 0, 2 * t, 0]), jgh, jgh, jgh, jgh, jgh, (130, [], [17, 18, 19, 20, 21, 22]), jgh, jgh, jgh, jgh, jgh, jgh, jgh, jgh, jgh, (100, [], (jenc (jlg 0))), (100, [], (jenc (jlg 1))), (100, [], (jenc (jlg 2))), (100, [], (jenc (jlg 3))), (100, [], (jenc (jlg 4))), (100, [], (jenc (jlg 5)))] 20 1070 (fun k v hsN => k = 0 ∧ v = (0, (jlz ((-2) * N + 1) 0 0 0 (2 * t) 0).sign) ∧ hsN = [jzS_251, (101, [], [1, 0, 0, 0, 2 * t, 0]), jgh, jgh, jgh, jgh, jgh, (130, [], [17, 18, 19, 20, 21, 22]), jgh, jgh, jgh, jgh, jgh, jgh, jgh, jgh, jgh, (100, [], (jenc (jlg 0))), (100, [], (jenc (jlg 1))), (100, [], (jenc (jlg 2))), (100, [], (jenc (jlg 3))), (100, [], (jenc (jlg 4))), (100, [], (jenc (jlg 5)))] ++ []) := by
  refine jT_xbipush (k := 6) (pcN := 2) jIS_212_0 (by decide) rfl ?_
  refine jT_adv 1 (pcN := 4) (LN := [(0, (4, 0)), (1, (4, 1)), (2, (1, 2 * N))]) (stN := [(4, 23)]) (hsN := [jzS_251, (101, [], [1, 0, 0, 0, 2 * t, 0]), jgh, jgh, jgh, jgh, jgh, (130, [], [17, 18, 19, 20, 21, 22]), jgh, jgh, jgh, jgh, jgh, jgh, jgh, jgh, jgh, (100, [], (jenc (jlg 0))), (100, [], (jenc (jlg 1))), (100, [], (jenc (jlg 2))), (100, [], (jenc (jlg 3))), (100, [], (jenc (jlg 4))), (100, [], (jenc (jlg 5))), (101, [], [0, 0, 0, 0, 0, 0])]) (c1 := 1) (s1 := 6) (c2 := 19) (s2 := 1064) (by exact rfl) ?_ (by omega) (by omega)
  refine jT_xastore (v := (4, 23)) (LN := [(4, (4, 23)), (0, (4, 0)), (1, (4, 1)), (2, (1, 2 * N))]) (pcN := 6) jIS_212_4 rfl rfl rfl rfl ?_
  refine jT_xaload_n (v := (4, 1)) (pcN := 7) jIS_212_6 rfl rfl rfl ?_
  refine jT_xiconst (k := 0) (pcN := 8) jIS_212_7 rfl ?_
  refine jT_xaload (v := (4, 23)) (pcN := 10) jIS_212_8 rfl rfl rfl ?_
  refine jT_xiconst (k := 0) (pcN := 11) jIS_212_10 rfl ?_
  refine jT_xbipush (k := 6) (pcN := 13) jIS_212_11 (by decide) rfl ?_
  refine jT_adv 1 (pcN := 16) (LN := [(4, (4, 23)), (0, (4, 0)), (1, (4, 1)), (2, (1, 2 * N))]) (stN := []) (hsN := [jzS_251, (101, [], [1, 0, 0, 0, 2 * t, 0]), jgh, jgh, jgh, jgh, jgh, (130, [], [17, 18, 19, 20, 21, 22]), jgh, jgh, jgh, jgh, jgh, jgh, jgh, jgh, jgh, (100, [], (jenc (jlg 0))), (100, [], (jenc (jlg 1))), (100, [], (jenc (jlg 2))), (100, [], (jenc (jlg 3))), (100, [], (jenc (jlg 4))), (100, [], (jenc (jlg 5))), (101, [], [1, 0, 0, 0, 2 * t, 0])]) (c1 := 0) (s1 := 0) (c2 := 19) (s2 := 1064) (by exact rfl) ?_ (by omega) (by omega)
  refine jT_xaload (v := (4, 23)) (pcN := 18) jIS_212_16 rfl rfl rfl ?_
  refine jT_xiconst (k := 0) (pcN := 19) jIS_212_18 rfl ?_
  refine jT_adv 1 (pcN := 20) (LN := [(4, (4, 23)), (0, (4, 0)), (1, (4, 1)), (2, (1, 2 * N))]) (stN := [(0, 0), (4, 23), (0, 0), (4, 23)]) (hsN := [jzS_251, (101, [], [1, 0, 0, 0, 2 * t, 0]), jgh, jgh, jgh, jgh, jgh, (130, [], [17, 18, 19, 20, 21, 22]), jgh, jgh, jgh, jgh, jgh, jgh, jgh, jgh, jgh, (100, [], (jenc (jlg 0))), (100, [], (jenc (jlg 1))), (100, [], (jenc (jlg 2))), (100, [], (jenc (jlg 3))), (100, [], (jenc (jlg 4))), (100, [], (jenc (jlg 5))), (101, [], [1, 0, 0, 0, 2 * t, 0])]) (c1 := 0) (s1 := 0) (c2 := 19) (s2 := 1064) (by exact rfl) ?_ (by omega) (by omega)
  refine jT_lald (x := 1) (a := 23) (j := 0) (fs := []) (X := [1, 0, 0, 0, 2 * t, 0]) jIS_212_20 rfl rfl rfl rfl ?_
  refine jT_eq (LN := [(4, (4, 23)), (0, (4, 0)), (1, (4, 1)), (2, (1, 2 * N))]) (stN := [(1, 1), (0, 0), (4, 23)]) (hsN := [jzS_251, (101, [], [1, 0, 0, 0, 2 * t, 0]), jgh, jgh, jgh, jgh, jgh, (130, [], [17, 18, 19, 20, 21, 22]), jgh, jgh, jgh, jgh, jgh, jgh, jgh, jgh, jgh, (100, [], (jenc (jlg 0))), (100, [], (jenc (jlg 1))), (100, [], (jenc (jlg 2))), (100, [], (jenc (jlg 3))), (100, [], (jenc (jlg 4))), (100, [], (jenc (jlg 5))), (101, [], [1, 0, 0, 0, 2 * t, 0])]) rfl rfl rfl ?_
  refine jT_xlload_n (v := (1, 2 * N)) (pcN := 22) jIS_212_21 rfl rfl rfl ?_
  refine jT_xlsub (x := 1) (y := 2 * N) (z := (-2) * N + 1) (pcN := 23) jIS_212_22 rfl (by omega) rfl ?_
  refine jT_adv 1 (pcN := 24) (LN := [(4, (4, 23)), (0, (4, 0)), (1, (4, 1)), (2, (1, 2 * N))]) (stN := []) (hsN := [jzS_251, (101, [], [1, 0, 0, 0, 2 * t, 0]), jgh, jgh, jgh, jgh, jgh, (130, [], [17, 18, 19, 20, 21, 22]), jgh, jgh, jgh, jgh, jgh, jgh, jgh, jgh, jgh, (100, [], (jenc (jlg 0))), (100, [], (jenc (jlg 1))), (100, [], (jenc (jlg 2))), (100, [], (jenc (jlg 3))), (100, [], (jenc (jlg 4))), (100, [], (jenc (jlg 5))), (101, [], [(-2) * N + 1, 0, 0, 0, 2 * t, 0])]) (c1 := 0) (s1 := 0) (c2 := 19) (s2 := 1064) (by exact rfl) ?_ (by omega) (by omega)
  refine jT_xaload_n (v := (4, 0)) (pcN := 25) jIS_212_24 rfl rfl rfl ?_
  refine jT_xaload (v := (4, 23)) (pcN := 27) jIS_212_25 rfl rfl rfl ?_
  refine jT_callA [0, 23, 2, 3, 4, 5, 6, 7, 8, 9, 10, 11, 12, 13, 14, 15, 16, 17, 18, 19, 20, 21, 22] (y := 213) (pcN := 30) (dC := 3) (bc1 := 19) (bc2 := 1064) (c1 := 0) (c2 := 0) (as := [(4, 0), (4, 23)]) (asC := [(4, 0), (4, 1)]) (LN := [(4, (4, 23)), (0, (4, 0)), (1, (4, 1)), (2, (1, 2 * N))]) (stN := []) (hsC := [jzS_251, (101, [], [(-2) * N + 1, 0, 0, 0, 2 * t, 0]), jgh, jgh, jgh, jgh, jgh, (130, [], [17, 18, 19, 20, 21, 22]), jgh, jgh, jgh, jgh, jgh, jgh, jgh, jgh, jgh, (100, [], (jenc (jlg 0))), (100, [], (jenc (jlg 1))), (100, [], (jenc (jlg 2))), (100, [], (jenc (jlg 3))), (100, [], (jenc (jlg 4))), (100, [], (jenc (jlg 5)))]) (ex := []) (v := (0, (jlz ((-2) * N + 1) 0 0 0 (2 * t) 0).sign)) (st2 := [(0, (jlz ((-2) * N + 1) 0 0 0 (2 * t) 0).sign)]) (hs2 := [jzS_251, (101, [], [1, 0, 0, 0, 2 * t, 0]), jgh, jgh, jgh, jgh, jgh, (130, [], [17, 18, 19, 20, 21, 22]), jgh, jgh, jgh, jgh, jgh, jgh, jgh, jgh, jgh, (100, [], (jenc (jlg 0))), (100, [], (jenc (jlg 1))), (100, [], (jenc (jlg 2))), (100, [], (jenc (jlg 3))), (100, [], (jenc (jlg 4))), (100, [], (jenc (jlg 5))), (101, [], [(-2) * N + 1, 0, 0, 0, 2 * t, 0])]) (jSl_sg_157 (d := 0) (e0 := (-2) * N + 1) (e1 := 0) (e2 := 0) (e3 := 0) (e4 := 2 * t) (e5 := 0) (by omega) (by omega) (by omega) (by omega) (by omega) (by omega)) (by rfl) (by rfl) (by rfl) (by rfl) ⟨rfl, rfl, rfl, rfl, rfl, rfl, rfl, rfl, rfl, rfl, rfl, rfl, rfl, rfl, rfl, rfl, rfl, rfl, rfl, rfl, rfl, rfl, rfl, trivial⟩ (by rfl) (by rfl) (by omega) (by show 23 ≤ 24; omega) (by omega) (by omega) rfl rfl ?_
  have hb_q1 := jsgn_b (jlz ((-2) * N + 1) 0 0 0 (2 * t) 0)
  generalize hq_q1 : (jlz ((-2) * N + 1) 0 0 0 (2 * t) 0).sign = q1 at hb_q1 ⊢
  refine jT_loc (LN := [(0, (4, 0))]) (by show List.Nodup [0]; decide) (by intro q hq; simp only [List.mem_cons, List.not_mem_nil, or_false] at hq; rcases hq with rfl <;> rfl) ?_
  refine jT_drop 23 (hs0 := [jzS_251, (101, [], [1, 0, 0, 0, 2 * t, 0]), jgh, jgh, jgh, jgh, jgh, (130, [], [17, 18, 19, 20, 21, 22]), jgh, jgh, jgh, jgh, jgh, jgh, jgh, jgh, jgh, (100, [], (jenc (jlg 0))), (100, [], (jenc (jlg 1))), (100, [], (jenc (jlg 2))), (100, [], (jenc (jlg 3))), (100, [], (jenc (jlg 4))), (100, [], (jenc (jlg 5)))]) (ex := [(101, [], [(-2) * N + 1, 0, 0, 0, 2 * t, 0])]) rfl rfl rfl (by decide) ?_
  subst hq_q1
  exact jT_ret rfl (by decide) (by show 23 ≤ 23; omega) (by omega) (by omega) ⟨rfl, rfl, rfl⟩
theorem jS_212_219 {xs : List Int} {d : Nat} {N t : Int} (h_N : (-1099511627776) ≤ N ∧ N ≤ 1099511627776) (h_t : 1 ≤ t ∧ t ≤ 60) (g_0 : (jlz ((-2) * N - 1) 0 0 0 (2 * t) 0).sign < 0) (g_1 : 0 ≤ (jlz ((-2) * N + 1) 0 0 0 (2 * t) 0).sign) : jT xs (d + 4) 212 23 0 [(0, (4, 0)), (1, (4, 1)), (2, (1, 2 * N + 2))] [] [jzS_251, (101, [], [1, 0, 0, 0, 2 * t, 0]), jgh, jgh, jgh, jgh, jgh, (130, [], [17, 18, 19, 20, 21, 22]), jgh, jgh, jgh, jgh, jgh, jgh, jgh, jgh, jgh, (100, [], (jenc (jlg 0))), (100, [], (jenc (jlg 1))), (100, [], (jenc (jlg 2))), (100, [], (jenc (jlg 3))), (100, [], (jenc (jlg 4))), (100, [], (jenc (jlg 5)))] 20 1070 (fun k v hsN => k = 0 ∧ v = (0, (jlz ((-2) * N - 1) 0 0 0 (2 * t) 0).sign) ∧ hsN = [jzS_251, (101, [], [1, 0, 0, 0, 2 * t, 0]), jgh, jgh, jgh, jgh, jgh, (130, [], [17, 18, 19, 20, 21, 22]), jgh, jgh, jgh, jgh, jgh, jgh, jgh, jgh, jgh, (100, [], (jenc (jlg 0))), (100, [], (jenc (jlg 1))), (100, [], (jenc (jlg 2))), (100, [], (jenc (jlg 3))), (100, [], (jenc (jlg 4))), (100, [], (jenc (jlg 5)))] ++ []) := by
  refine jT_xbipush (k := 6) (pcN := 2) jIS_212_0 (by decide) rfl ?_
  refine jT_adv 1 (pcN := 4) (LN := [(0, (4, 0)), (1, (4, 1)), (2, (1, 2 * N + 2))]) (stN := [(4, 23)]) (hsN := [jzS_251, (101, [], [1, 0, 0, 0, 2 * t, 0]), jgh, jgh, jgh, jgh, jgh, (130, [], [17, 18, 19, 20, 21, 22]), jgh, jgh, jgh, jgh, jgh, jgh, jgh, jgh, jgh, (100, [], (jenc (jlg 0))), (100, [], (jenc (jlg 1))), (100, [], (jenc (jlg 2))), (100, [], (jenc (jlg 3))), (100, [], (jenc (jlg 4))), (100, [], (jenc (jlg 5))), (101, [], [0, 0, 0, 0, 0, 0])]) (c1 := 1) (s1 := 6) (c2 := 19) (s2 := 1064) (by exact rfl) ?_ (by omega) (by omega)
  refine jT_xastore (v := (4, 23)) (LN := [(4, (4, 23)), (0, (4, 0)), (1, (4, 1)), (2, (1, 2 * N + 2))]) (pcN := 6) jIS_212_4 rfl rfl rfl rfl ?_
  refine jT_xaload_n (v := (4, 1)) (pcN := 7) jIS_212_6 rfl rfl rfl ?_
  refine jT_xiconst (k := 0) (pcN := 8) jIS_212_7 rfl ?_
  refine jT_xaload (v := (4, 23)) (pcN := 10) jIS_212_8 rfl rfl rfl ?_
  refine jT_xiconst (k := 0) (pcN := 11) jIS_212_10 rfl ?_
  refine jT_xbipush (k := 6) (pcN := 13) jIS_212_11 (by decide) rfl ?_
  refine jT_adv 1 (pcN := 16) (LN := [(4, (4, 23)), (0, (4, 0)), (1, (4, 1)), (2, (1, 2 * N + 2))]) (stN := []) (hsN := [jzS_251, (101, [], [1, 0, 0, 0, 2 * t, 0]), jgh, jgh, jgh, jgh, jgh, (130, [], [17, 18, 19, 20, 21, 22]), jgh, jgh, jgh, jgh, jgh, jgh, jgh, jgh, jgh, (100, [], (jenc (jlg 0))), (100, [], (jenc (jlg 1))), (100, [], (jenc (jlg 2))), (100, [], (jenc (jlg 3))), (100, [], (jenc (jlg 4))), (100, [], (jenc (jlg 5))), (101, [], [1, 0, 0, 0, 2 * t, 0])]) (c1 := 0) (s1 := 0) (c2 := 19) (s2 := 1064) (by exact rfl) ?_ (by omega) (by omega)
  refine jT_xaload (v := (4, 23)) (pcN := 18) jIS_212_16 rfl rfl rfl ?_
  refine jT_xiconst (k := 0) (pcN := 19) jIS_212_18 rfl ?_
  refine jT_adv 1 (pcN := 20) (LN := [(4, (4, 23)), (0, (4, 0)), (1, (4, 1)), (2, (1, 2 * N + 2))]) (stN := [(0, 0), (4, 23), (0, 0), (4, 23)]) (hsN := [jzS_251, (101, [], [1, 0, 0, 0, 2 * t, 0]), jgh, jgh, jgh, jgh, jgh, (130, [], [17, 18, 19, 20, 21, 22]), jgh, jgh, jgh, jgh, jgh, jgh, jgh, jgh, jgh, (100, [], (jenc (jlg 0))), (100, [], (jenc (jlg 1))), (100, [], (jenc (jlg 2))), (100, [], (jenc (jlg 3))), (100, [], (jenc (jlg 4))), (100, [], (jenc (jlg 5))), (101, [], [1, 0, 0, 0, 2 * t, 0])]) (c1 := 0) (s1 := 0) (c2 := 19) (s2 := 1064) (by exact rfl) ?_ (by omega) (by omega)
  refine jT_lald (x := 1) (a := 23) (j := 0) (fs := []) (X := [1, 0, 0, 0, 2 * t, 0]) jIS_212_20 rfl rfl rfl rfl ?_
  refine jT_eq (LN := [(4, (4, 23)), (0, (4, 0)), (1, (4, 1)), (2, (1, 2 * N + 2))]) (stN := [(1, 1), (0, 0), (4, 23)]) (hsN := [jzS_251, (101, [], [1, 0, 0, 0, 2 * t, 0]), jgh, jgh, jgh, jgh, jgh, (130, [], [17, 18, 19, 20, 21, 22]), jgh, jgh, jgh, jgh, jgh, jgh, jgh, jgh, jgh, (100, [], (jenc (jlg 0))), (100, [], (jenc (jlg 1))), (100, [], (jenc (jlg 2))), (100, [], (jenc (jlg 3))), (100, [], (jenc (jlg 4))), (100, [], (jenc (jlg 5))), (101, [], [1, 0, 0, 0, 2 * t, 0])]) rfl rfl rfl ?_
  refine jT_xlload_n (v := (1, 2 * N + 2)) (pcN := 22) jIS_212_21 rfl rfl rfl ?_
  refine jT_xlsub (x := 1) (y := 2 * N + 2) (z := (-2) * N - 1) (pcN := 23) jIS_212_22 rfl (by omega) rfl ?_
  refine jT_adv 1 (pcN := 24) (LN := [(4, (4, 23)), (0, (4, 0)), (1, (4, 1)), (2, (1, 2 * N + 2))]) (stN := []) (hsN := [jzS_251, (101, [], [1, 0, 0, 0, 2 * t, 0]), jgh, jgh, jgh, jgh, jgh, (130, [], [17, 18, 19, 20, 21, 22]), jgh, jgh, jgh, jgh, jgh, jgh, jgh, jgh, jgh, (100, [], (jenc (jlg 0))), (100, [], (jenc (jlg 1))), (100, [], (jenc (jlg 2))), (100, [], (jenc (jlg 3))), (100, [], (jenc (jlg 4))), (100, [], (jenc (jlg 5))), (101, [], [(-2) * N - 1, 0, 0, 0, 2 * t, 0])]) (c1 := 0) (s1 := 0) (c2 := 19) (s2 := 1064) (by exact rfl) ?_ (by omega) (by omega)
  refine jT_xaload_n (v := (4, 0)) (pcN := 25) jIS_212_24 rfl rfl rfl ?_
  refine jT_xaload (v := (4, 23)) (pcN := 27) jIS_212_25 rfl rfl rfl ?_
  refine jT_callA [0, 23, 2, 3, 4, 5, 6, 7, 8, 9, 10, 11, 12, 13, 14, 15, 16, 17, 18, 19, 20, 21, 22] (y := 213) (pcN := 30) (dC := 3) (bc1 := 19) (bc2 := 1064) (c1 := 0) (c2 := 0) (as := [(4, 0), (4, 23)]) (asC := [(4, 0), (4, 1)]) (LN := [(4, (4, 23)), (0, (4, 0)), (1, (4, 1)), (2, (1, 2 * N + 2))]) (stN := []) (hsC := [jzS_251, (101, [], [(-2) * N - 1, 0, 0, 0, 2 * t, 0]), jgh, jgh, jgh, jgh, jgh, (130, [], [17, 18, 19, 20, 21, 22]), jgh, jgh, jgh, jgh, jgh, jgh, jgh, jgh, jgh, (100, [], (jenc (jlg 0))), (100, [], (jenc (jlg 1))), (100, [], (jenc (jlg 2))), (100, [], (jenc (jlg 3))), (100, [], (jenc (jlg 4))), (100, [], (jenc (jlg 5)))]) (ex := []) (v := (0, (jlz ((-2) * N - 1) 0 0 0 (2 * t) 0).sign)) (st2 := [(0, (jlz ((-2) * N - 1) 0 0 0 (2 * t) 0).sign)]) (hs2 := [jzS_251, (101, [], [1, 0, 0, 0, 2 * t, 0]), jgh, jgh, jgh, jgh, jgh, (130, [], [17, 18, 19, 20, 21, 22]), jgh, jgh, jgh, jgh, jgh, jgh, jgh, jgh, jgh, (100, [], (jenc (jlg 0))), (100, [], (jenc (jlg 1))), (100, [], (jenc (jlg 2))), (100, [], (jenc (jlg 3))), (100, [], (jenc (jlg 4))), (100, [], (jenc (jlg 5))), (101, [], [(-2) * N - 1, 0, 0, 0, 2 * t, 0])]) (jSl_sg_157 (d := 0) (e0 := (-2) * N - 1) (e1 := 0) (e2 := 0) (e3 := 0) (e4 := 2 * t) (e5 := 0) (by omega) (by omega) (by omega) (by omega) (by omega) (by omega)) (by rfl) (by rfl) (by rfl) (by rfl) ⟨rfl, rfl, rfl, rfl, rfl, rfl, rfl, rfl, rfl, rfl, rfl, rfl, rfl, rfl, rfl, rfl, rfl, rfl, rfl, rfl, rfl, rfl, rfl, trivial⟩ (by rfl) (by rfl) (by omega) (by show 23 ≤ 24; omega) (by omega) (by omega) rfl rfl ?_
  have hb_q1 := jsgn_b (jlz ((-2) * N - 1) 0 0 0 (2 * t) 0)
  generalize hq_q1 : (jlz ((-2) * N - 1) 0 0 0 (2 * t) 0).sign = q1 at hb_q1 g_0 ⊢
  refine jT_loc (LN := [(0, (4, 0))]) (by show List.Nodup [0]; decide) (by intro q hq; simp only [List.mem_cons, List.not_mem_nil, or_false] at hq; rcases hq with rfl <;> rfl) ?_
  refine jT_drop 23 (hs0 := [jzS_251, (101, [], [1, 0, 0, 0, 2 * t, 0]), jgh, jgh, jgh, jgh, jgh, (130, [], [17, 18, 19, 20, 21, 22]), jgh, jgh, jgh, jgh, jgh, jgh, jgh, jgh, jgh, (100, [], (jenc (jlg 0))), (100, [], (jenc (jlg 1))), (100, [], (jenc (jlg 2))), (100, [], (jenc (jlg 3))), (100, [], (jenc (jlg 4))), (100, [], (jenc (jlg 5)))]) (ex := [(101, [], [(-2) * N - 1, 0, 0, 0, 2 * t, 0])]) rfl rfl rfl (by decide) ?_
  subst hq_q1
  exact jT_ret rfl (by decide) (by show 23 ≤ 23; omega) (by omega) (by omega) ⟨rfl, rfl, rfl⟩
theorem jS_212_220 {xs : List Int} {d : Nat} {N t : Int} (h_N : (-1099511627776) ≤ N ∧ N ≤ 1099511627776) (h_t : 1 ≤ t ∧ t ≤ 60) (g_0 : 0 ≤ (jlz ((-2) * N + 1) 0 0 0 (2 * t) 0).sign) : jT xs (d + 4) 212 23 0 [(0, (4, 0)), (1, (4, 1)), (2, (1, 2 * N))] [] [jzS_251, (101, [], [1, 0, 0, 0, 2 * t, 0]), jgh, jgh, jgh, jgh, jgh, (130, [], [17, 18, 19, 20, 21, 22]), jgh, jgh, jgh, jgh, jgh, jgh, jgh, jgh, jgh, (100, [], (jenc (jlg 0))), (100, [], (jenc (jlg 1))), (100, [], (jenc (jlg 2))), (100, [], (jenc (jlg 3))), (100, [], (jenc (jlg 4))), (100, [], (jenc (jlg 5)))] 20 1070 (fun k v hsN => k = 0 ∧ v = (0, (jlz ((-2) * N + 1) 0 0 0 (2 * t) 0).sign) ∧ hsN = [jzS_251, (101, [], [1, 0, 0, 0, 2 * t, 0]), jgh, jgh, jgh, jgh, jgh, (130, [], [17, 18, 19, 20, 21, 22]), jgh, jgh, jgh, jgh, jgh, jgh, jgh, jgh, jgh, (100, [], (jenc (jlg 0))), (100, [], (jenc (jlg 1))), (100, [], (jenc (jlg 2))), (100, [], (jenc (jlg 3))), (100, [], (jenc (jlg 4))), (100, [], (jenc (jlg 5)))] ++ []) := by
  refine jT_xbipush (k := 6) (pcN := 2) jIS_212_0 (by decide) rfl ?_
  refine jT_adv 1 (pcN := 4) (LN := [(0, (4, 0)), (1, (4, 1)), (2, (1, 2 * N))]) (stN := [(4, 23)]) (hsN := [jzS_251, (101, [], [1, 0, 0, 0, 2 * t, 0]), jgh, jgh, jgh, jgh, jgh, (130, [], [17, 18, 19, 20, 21, 22]), jgh, jgh, jgh, jgh, jgh, jgh, jgh, jgh, jgh, (100, [], (jenc (jlg 0))), (100, [], (jenc (jlg 1))), (100, [], (jenc (jlg 2))), (100, [], (jenc (jlg 3))), (100, [], (jenc (jlg 4))), (100, [], (jenc (jlg 5))), (101, [], [0, 0, 0, 0, 0, 0])]) (c1 := 1) (s1 := 6) (c2 := 19) (s2 := 1064) (by exact rfl) ?_ (by omega) (by omega)
  refine jT_xastore (v := (4, 23)) (LN := [(4, (4, 23)), (0, (4, 0)), (1, (4, 1)), (2, (1, 2 * N))]) (pcN := 6) jIS_212_4 rfl rfl rfl rfl ?_
  refine jT_xaload_n (v := (4, 1)) (pcN := 7) jIS_212_6 rfl rfl rfl ?_
  refine jT_xiconst (k := 0) (pcN := 8) jIS_212_7 rfl ?_
  refine jT_xaload (v := (4, 23)) (pcN := 10) jIS_212_8 rfl rfl rfl ?_
  refine jT_xiconst (k := 0) (pcN := 11) jIS_212_10 rfl ?_
  refine jT_xbipush (k := 6) (pcN := 13) jIS_212_11 (by decide) rfl ?_
  refine jT_adv 1 (pcN := 16) (LN := [(4, (4, 23)), (0, (4, 0)), (1, (4, 1)), (2, (1, 2 * N))]) (stN := []) (hsN := [jzS_251, (101, [], [1, 0, 0, 0, 2 * t, 0]), jgh, jgh, jgh, jgh, jgh, (130, [], [17, 18, 19, 20, 21, 22]), jgh, jgh, jgh, jgh, jgh, jgh, jgh, jgh, jgh, (100, [], (jenc (jlg 0))), (100, [], (jenc (jlg 1))), (100, [], (jenc (jlg 2))), (100, [], (jenc (jlg 3))), (100, [], (jenc (jlg 4))), (100, [], (jenc (jlg 5))), (101, [], [1, 0, 0, 0, 2 * t, 0])]) (c1 := 0) (s1 := 0) (c2 := 19) (s2 := 1064) (by exact rfl) ?_ (by omega) (by omega)
  refine jT_xaload (v := (4, 23)) (pcN := 18) jIS_212_16 rfl rfl rfl ?_
  refine jT_xiconst (k := 0) (pcN := 19) jIS_212_18 rfl ?_
  refine jT_adv 1 (pcN := 20) (LN := [(4, (4, 23)), (0, (4, 0)), (1, (4, 1)), (2, (1, 2 * N))]) (stN := [(0, 0), (4, 23), (0, 0), (4, 23)]) (hsN := [jzS_251, (101, [], [1, 0, 0, 0, 2 * t, 0]), jgh, jgh, jgh, jgh, jgh, (130, [], [17, 18, 19, 20, 21, 22]), jgh, jgh, jgh, jgh, jgh, jgh, jgh, jgh, jgh, (100, [], (jenc (jlg 0))), (100, [], (jenc (jlg 1))), (100, [], (jenc (jlg 2))), (100, [], (jenc (jlg 3))), (100, [], (jenc (jlg 4))), (100, [], (jenc (jlg 5))), (101, [], [1, 0, 0, 0, 2 * t, 0])]) (c1 := 0) (s1 := 0) (c2 := 19) (s2 := 1064) (by exact rfl) ?_ (by omega) (by omega)
  refine jT_lald (x := 1) (a := 23) (j := 0) (fs := []) (X := [1, 0, 0, 0, 2 * t, 0]) jIS_212_20 rfl rfl rfl rfl ?_
  refine jT_eq (LN := [(4, (4, 23)), (0, (4, 0)), (1, (4, 1)), (2, (1, 2 * N))]) (stN := [(1, 1), (0, 0), (4, 23)]) (hsN := [jzS_251, (101, [], [1, 0, 0, 0, 2 * t, 0]), jgh, jgh, jgh, jgh, jgh, (130, [], [17, 18, 19, 20, 21, 22]), jgh, jgh, jgh, jgh, jgh, jgh, jgh, jgh, jgh, (100, [], (jenc (jlg 0))), (100, [], (jenc (jlg 1))), (100, [], (jenc (jlg 2))), (100, [], (jenc (jlg 3))), (100, [], (jenc (jlg 4))), (100, [], (jenc (jlg 5))), (101, [], [1, 0, 0, 0, 2 * t, 0])]) rfl rfl rfl ?_
  refine jT_xlload_n (v := (1, 2 * N)) (pcN := 22) jIS_212_21 rfl rfl rfl ?_
  refine jT_xlsub (x := 1) (y := 2 * N) (z := (-2) * N + 1) (pcN := 23) jIS_212_22 rfl (by omega) rfl ?_
  refine jT_adv 1 (pcN := 24) (LN := [(4, (4, 23)), (0, (4, 0)), (1, (4, 1)), (2, (1, 2 * N))]) (stN := []) (hsN := [jzS_251, (101, [], [1, 0, 0, 0, 2 * t, 0]), jgh, jgh, jgh, jgh, jgh, (130, [], [17, 18, 19, 20, 21, 22]), jgh, jgh, jgh, jgh, jgh, jgh, jgh, jgh, jgh, (100, [], (jenc (jlg 0))), (100, [], (jenc (jlg 1))), (100, [], (jenc (jlg 2))), (100, [], (jenc (jlg 3))), (100, [], (jenc (jlg 4))), (100, [], (jenc (jlg 5))), (101, [], [(-2) * N + 1, 0, 0, 0, 2 * t, 0])]) (c1 := 0) (s1 := 0) (c2 := 19) (s2 := 1064) (by exact rfl) ?_ (by omega) (by omega)
  refine jT_xaload_n (v := (4, 0)) (pcN := 25) jIS_212_24 rfl rfl rfl ?_
  refine jT_xaload (v := (4, 23)) (pcN := 27) jIS_212_25 rfl rfl rfl ?_
  refine jT_callA [0, 23, 2, 3, 4, 5, 6, 7, 8, 9, 10, 11, 12, 13, 14, 15, 16, 17, 18, 19, 20, 21, 22] (y := 213) (pcN := 30) (dC := 3) (bc1 := 19) (bc2 := 1064) (c1 := 0) (c2 := 0) (as := [(4, 0), (4, 23)]) (asC := [(4, 0), (4, 1)]) (LN := [(4, (4, 23)), (0, (4, 0)), (1, (4, 1)), (2, (1, 2 * N))]) (stN := []) (hsC := [jzS_251, (101, [], [(-2) * N + 1, 0, 0, 0, 2 * t, 0]), jgh, jgh, jgh, jgh, jgh, (130, [], [17, 18, 19, 20, 21, 22]), jgh, jgh, jgh, jgh, jgh, jgh, jgh, jgh, jgh, (100, [], (jenc (jlg 0))), (100, [], (jenc (jlg 1))), (100, [], (jenc (jlg 2))), (100, [], (jenc (jlg 3))), (100, [], (jenc (jlg 4))), (100, [], (jenc (jlg 5)))]) (ex := []) (v := (0, (jlz ((-2) * N + 1) 0 0 0 (2 * t) 0).sign)) (st2 := [(0, (jlz ((-2) * N + 1) 0 0 0 (2 * t) 0).sign)]) (hs2 := [jzS_251, (101, [], [1, 0, 0, 0, 2 * t, 0]), jgh, jgh, jgh, jgh, jgh, (130, [], [17, 18, 19, 20, 21, 22]), jgh, jgh, jgh, jgh, jgh, jgh, jgh, jgh, jgh, (100, [], (jenc (jlg 0))), (100, [], (jenc (jlg 1))), (100, [], (jenc (jlg 2))), (100, [], (jenc (jlg 3))), (100, [], (jenc (jlg 4))), (100, [], (jenc (jlg 5))), (101, [], [(-2) * N + 1, 0, 0, 0, 2 * t, 0])]) (jSl_sg_157 (d := 0) (e0 := (-2) * N + 1) (e1 := 0) (e2 := 0) (e3 := 0) (e4 := 2 * t) (e5 := 0) (by omega) (by omega) (by omega) (by omega) (by omega) (by omega)) (by rfl) (by rfl) (by rfl) (by rfl) ⟨rfl, rfl, rfl, rfl, rfl, rfl, rfl, rfl, rfl, rfl, rfl, rfl, rfl, rfl, rfl, rfl, rfl, rfl, rfl, rfl, rfl, rfl, rfl, trivial⟩ (by rfl) (by rfl) (by omega) (by show 23 ≤ 24; omega) (by omega) (by omega) rfl rfl ?_
  have hb_q1 := jsgn_b (jlz ((-2) * N + 1) 0 0 0 (2 * t) 0)
  generalize hq_q1 : (jlz ((-2) * N + 1) 0 0 0 (2 * t) 0).sign = q1 at hb_q1 g_0 ⊢
  refine jT_loc (LN := [(0, (4, 0))]) (by show List.Nodup [0]; decide) (by intro q hq; simp only [List.mem_cons, List.not_mem_nil, or_false] at hq; rcases hq with rfl <;> rfl) ?_
  refine jT_drop 23 (hs0 := [jzS_251, (101, [], [1, 0, 0, 0, 2 * t, 0]), jgh, jgh, jgh, jgh, jgh, (130, [], [17, 18, 19, 20, 21, 22]), jgh, jgh, jgh, jgh, jgh, jgh, jgh, jgh, jgh, (100, [], (jenc (jlg 0))), (100, [], (jenc (jlg 1))), (100, [], (jenc (jlg 2))), (100, [], (jenc (jlg 3))), (100, [], (jenc (jlg 4))), (100, [], (jenc (jlg 5)))]) (ex := [(101, [], [(-2) * N + 1, 0, 0, 0, 2 * t, 0])]) rfl rfl rfl (by decide) ?_
  subst hq_q1
  exact jT_ret rfl (by decide) (by show 23 ≤ 23; omega) (by omega) (by omega) ⟨rfl, rfl, rfl⟩
theorem jS_212_221 {xs : List Int} {d : Nat} {N t : Int} (h_N : (-1099511627776) ≤ N ∧ N ≤ 1099511627776) (h_t : 1 ≤ t ∧ t ≤ 60) (g_0 : 0 ≤ (jlz ((-2) * N + 1) 0 0 0 (2 * t) 0).sign) (g_1 : (jlz ((-2) * N - 1) 0 0 0 (2 * t) 0).sign < 0) : jT xs (d + 4) 212 23 0 [(0, (4, 0)), (1, (4, 1)), (2, (1, 2 * N))] [] [jzS_251, (101, [], [1, 0, 0, 0, 2 * t, 0]), jgh, jgh, jgh, jgh, jgh, (130, [], [17, 18, 19, 20, 21, 22]), jgh, jgh, jgh, jgh, jgh, jgh, jgh, jgh, jgh, (100, [], (jenc (jlg 0))), (100, [], (jenc (jlg 1))), (100, [], (jenc (jlg 2))), (100, [], (jenc (jlg 3))), (100, [], (jenc (jlg 4))), (100, [], (jenc (jlg 5)))] 20 1070 (fun k v hsN => k = 0 ∧ v = (0, (jlz ((-2) * N + 1) 0 0 0 (2 * t) 0).sign) ∧ hsN = [jzS_251, (101, [], [1, 0, 0, 0, 2 * t, 0]), jgh, jgh, jgh, jgh, jgh, (130, [], [17, 18, 19, 20, 21, 22]), jgh, jgh, jgh, jgh, jgh, jgh, jgh, jgh, jgh, (100, [], (jenc (jlg 0))), (100, [], (jenc (jlg 1))), (100, [], (jenc (jlg 2))), (100, [], (jenc (jlg 3))), (100, [], (jenc (jlg 4))), (100, [], (jenc (jlg 5)))] ++ []) := by
  refine jT_xbipush (k := 6) (pcN := 2) jIS_212_0 (by decide) rfl ?_
  refine jT_adv 1 (pcN := 4) (LN := [(0, (4, 0)), (1, (4, 1)), (2, (1, 2 * N))]) (stN := [(4, 23)]) (hsN := [jzS_251, (101, [], [1, 0, 0, 0, 2 * t, 0]), jgh, jgh, jgh, jgh, jgh, (130, [], [17, 18, 19, 20, 21, 22]), jgh, jgh, jgh, jgh, jgh, jgh, jgh, jgh, jgh, (100, [], (jenc (jlg 0))), (100, [], (jenc (jlg 1))), (100, [], (jenc (jlg 2))), (100, [], (jenc (jlg 3))), (100, [], (jenc (jlg 4))), (100, [], (jenc (jlg 5))), (101, [], [0, 0, 0, 0, 0, 0])]) (c1 := 1) (s1 := 6) (c2 := 19) (s2 := 1064) (by exact rfl) ?_ (by omega) (by omega)
  refine jT_xastore (v := (4, 23)) (LN := [(4, (4, 23)), (0, (4, 0)), (1, (4, 1)), (2, (1, 2 * N))]) (pcN := 6) jIS_212_4 rfl rfl rfl rfl ?_
  refine jT_xaload_n (v := (4, 1)) (pcN := 7) jIS_212_6 rfl rfl rfl ?_
  refine jT_xiconst (k := 0) (pcN := 8) jIS_212_7 rfl ?_
  refine jT_xaload (v := (4, 23)) (pcN := 10) jIS_212_8 rfl rfl rfl ?_
  refine jT_xiconst (k := 0) (pcN := 11) jIS_212_10 rfl ?_
  refine jT_xbipush (k := 6) (pcN := 13) jIS_212_11 (by decide) rfl ?_
  refine jT_adv 1 (pcN := 16) (LN := [(4, (4, 23)), (0, (4, 0)), (1, (4, 1)), (2, (1, 2 * N))]) (stN := []) (hsN := [jzS_251, (101, [], [1, 0, 0, 0, 2 * t, 0]), jgh, jgh, jgh, jgh, jgh, (130, [], [17, 18, 19, 20, 21, 22]), jgh, jgh, jgh, jgh, jgh, jgh, jgh, jgh, jgh, (100, [], (jenc (jlg 0))), (100, [], (jenc (jlg 1))), (100, [], (jenc (jlg 2))), (100, [], (jenc (jlg 3))), (100, [], (jenc (jlg 4))), (100, [], (jenc (jlg 5))), (101, [], [1, 0, 0, 0, 2 * t, 0])]) (c1 := 0) (s1 := 0) (c2 := 19) (s2 := 1064) (by exact rfl) ?_ (by omega) (by omega)
  refine jT_xaload (v := (4, 23)) (pcN := 18) jIS_212_16 rfl rfl rfl ?_
  refine jT_xiconst (k := 0) (pcN := 19) jIS_212_18 rfl ?_
  refine jT_adv 1 (pcN := 20) (LN := [(4, (4, 23)), (0, (4, 0)), (1, (4, 1)), (2, (1, 2 * N))]) (stN := [(0, 0), (4, 23), (0, 0), (4, 23)]) (hsN := [jzS_251, (101, [], [1, 0, 0, 0, 2 * t, 0]), jgh, jgh, jgh, jgh, jgh, (130, [], [17, 18, 19, 20, 21, 22]), jgh, jgh, jgh, jgh, jgh, jgh, jgh, jgh, jgh, (100, [], (jenc (jlg 0))), (100, [], (jenc (jlg 1))), (100, [], (jenc (jlg 2))), (100, [], (jenc (jlg 3))), (100, [], (jenc (jlg 4))), (100, [], (jenc (jlg 5))), (101, [], [1, 0, 0, 0, 2 * t, 0])]) (c1 := 0) (s1 := 0) (c2 := 19) (s2 := 1064) (by exact rfl) ?_ (by omega) (by omega)
  refine jT_lald (x := 1) (a := 23) (j := 0) (fs := []) (X := [1, 0, 0, 0, 2 * t, 0]) jIS_212_20 rfl rfl rfl rfl ?_
  refine jT_eq (LN := [(4, (4, 23)), (0, (4, 0)), (1, (4, 1)), (2, (1, 2 * N))]) (stN := [(1, 1), (0, 0), (4, 23)]) (hsN := [jzS_251, (101, [], [1, 0, 0, 0, 2 * t, 0]), jgh, jgh, jgh, jgh, jgh, (130, [], [17, 18, 19, 20, 21, 22]), jgh, jgh, jgh, jgh, jgh, jgh, jgh, jgh, jgh, (100, [], (jenc (jlg 0))), (100, [], (jenc (jlg 1))), (100, [], (jenc (jlg 2))), (100, [], (jenc (jlg 3))), (100, [], (jenc (jlg 4))), (100, [], (jenc (jlg 5))), (101, [], [1, 0, 0, 0, 2 * t, 0])]) rfl rfl rfl ?_
  refine jT_xlload_n (v := (1, 2 * N)) (pcN := 22) jIS_212_21 rfl rfl rfl ?_
  refine jT_xlsub (x := 1) (y := 2 * N) (z := (-2) * N + 1) (pcN := 23) jIS_212_22 rfl (by omega) rfl ?_
  refine jT_adv 1 (pcN := 24) (LN := [(4, (4, 23)), (0, (4, 0)), (1, (4, 1)), (2, (1, 2 * N))]) (stN := []) (hsN := [jzS_251, (101, [], [1, 0, 0, 0, 2 * t, 0]), jgh, jgh, jgh, jgh, jgh, (130, [], [17, 18, 19, 20, 21, 22]), jgh, jgh, jgh, jgh, jgh, jgh, jgh, jgh, jgh, (100, [], (jenc (jlg 0))), (100, [], (jenc (jlg 1))), (100, [], (jenc (jlg 2))), (100, [], (jenc (jlg 3))), (100, [], (jenc (jlg 4))), (100, [], (jenc (jlg 5))), (101, [], [(-2) * N + 1, 0, 0, 0, 2 * t, 0])]) (c1 := 0) (s1 := 0) (c2 := 19) (s2 := 1064) (by exact rfl) ?_ (by omega) (by omega)
  refine jT_xaload_n (v := (4, 0)) (pcN := 25) jIS_212_24 rfl rfl rfl ?_
  refine jT_xaload (v := (4, 23)) (pcN := 27) jIS_212_25 rfl rfl rfl ?_
  refine jT_callA [0, 23, 2, 3, 4, 5, 6, 7, 8, 9, 10, 11, 12, 13, 14, 15, 16, 17, 18, 19, 20, 21, 22] (y := 213) (pcN := 30) (dC := 3) (bc1 := 19) (bc2 := 1064) (c1 := 0) (c2 := 0) (as := [(4, 0), (4, 23)]) (asC := [(4, 0), (4, 1)]) (LN := [(4, (4, 23)), (0, (4, 0)), (1, (4, 1)), (2, (1, 2 * N))]) (stN := []) (hsC := [jzS_251, (101, [], [(-2) * N + 1, 0, 0, 0, 2 * t, 0]), jgh, jgh, jgh, jgh, jgh, (130, [], [17, 18, 19, 20, 21, 22]), jgh, jgh, jgh, jgh, jgh, jgh, jgh, jgh, jgh, (100, [], (jenc (jlg 0))), (100, [], (jenc (jlg 1))), (100, [], (jenc (jlg 2))), (100, [], (jenc (jlg 3))), (100, [], (jenc (jlg 4))), (100, [], (jenc (jlg 5)))]) (ex := []) (v := (0, (jlz ((-2) * N + 1) 0 0 0 (2 * t) 0).sign)) (st2 := [(0, (jlz ((-2) * N + 1) 0 0 0 (2 * t) 0).sign)]) (hs2 := [jzS_251, (101, [], [1, 0, 0, 0, 2 * t, 0]), jgh, jgh, jgh, jgh, jgh, (130, [], [17, 18, 19, 20, 21, 22]), jgh, jgh, jgh, jgh, jgh, jgh, jgh, jgh, jgh, (100, [], (jenc (jlg 0))), (100, [], (jenc (jlg 1))), (100, [], (jenc (jlg 2))), (100, [], (jenc (jlg 3))), (100, [], (jenc (jlg 4))), (100, [], (jenc (jlg 5))), (101, [], [(-2) * N + 1, 0, 0, 0, 2 * t, 0])]) (jSl_sg_157 (d := 0) (e0 := (-2) * N + 1) (e1 := 0) (e2 := 0) (e3 := 0) (e4 := 2 * t) (e5 := 0) (by omega) (by omega) (by omega) (by omega) (by omega) (by omega)) (by rfl) (by rfl) (by rfl) (by rfl) ⟨rfl, rfl, rfl, rfl, rfl, rfl, rfl, rfl, rfl, rfl, rfl, rfl, rfl, rfl, rfl, rfl, rfl, rfl, rfl, rfl, rfl, rfl, rfl, trivial⟩ (by rfl) (by rfl) (by omega) (by show 23 ≤ 24; omega) (by omega) (by omega) rfl rfl ?_
  have hb_q1 := jsgn_b (jlz ((-2) * N + 1) 0 0 0 (2 * t) 0)
  generalize hq_q1 : (jlz ((-2) * N + 1) 0 0 0 (2 * t) 0).sign = q1 at hb_q1 g_0 ⊢
  refine jT_loc (LN := [(0, (4, 0))]) (by show List.Nodup [0]; decide) (by intro q hq; simp only [List.mem_cons, List.not_mem_nil, or_false] at hq; rcases hq with rfl <;> rfl) ?_
  refine jT_drop 23 (hs0 := [jzS_251, (101, [], [1, 0, 0, 0, 2 * t, 0]), jgh, jgh, jgh, jgh, jgh, (130, [], [17, 18, 19, 20, 21, 22]), jgh, jgh, jgh, jgh, jgh, jgh, jgh, jgh, jgh, (100, [], (jenc (jlg 0))), (100, [], (jenc (jlg 1))), (100, [], (jenc (jlg 2))), (100, [], (jenc (jlg 3))), (100, [], (jenc (jlg 4))), (100, [], (jenc (jlg 5)))]) (ex := [(101, [], [(-2) * N + 1, 0, 0, 0, 2 * t, 0])]) rfl rfl rfl (by decide) ?_
  subst hq_q1
  exact jT_ret rfl (by decide) (by show 23 ≤ 23; omega) (by omega) (by omega) ⟨rfl, rfl, rfl⟩
theorem jSl_pc_215 {xs : List Int} {d : Nat} {t : Int} (h_t : 1 ≤ t ∧ t ≤ 60) {N d1 d2 d3 d4 d5 d6 : Int} (fd1 : ((FP.l2d (Int64.ofInt (2 * t))).toNat : Int) = d1) (fd2 : jn64 (FP.dmul (ju64 4614972366274321729) (ju64 d1)) = true ∧ ((FP.dmul (ju64 4614972366274321729) (ju64 d1)).toNat : Int) = d2) (fd3 : jn64 (FP.dadd (ju64 4607182418800017408) (ju64 d2)) = true ∧ ((FP.dadd (ju64 4607182418800017408) (ju64 d2)).toNat : Int) = d3) (fd4 : jn64 (FP.dadd (ju64 d3) (ju64 0)) = true ∧ ((FP.dadd (ju64 d3) (ju64 0)).toNat : Int) = d4) (fd5 : jn64 (FP.ddiv (ju64 d4) (ju64 4611686018427387904)) = true ∧ ((FP.ddiv (ju64 d4) (ju64 4611686018427387904)).toNat : Int) = d5) (fd6 : (FP.d2l (ju64 d5)).toInt = d6) (h_N : (-1099511627776) ≤ N ∧ N ≤ 1099511627776) (h1 : N ≤ d6) (h2 : d6 ≤ N + 1) (hA : 0 ≤ jlz ((-2) * N + 1) 0 0 0 (2 * t) 0) (hB : jlz ((-2) * N - 1) 0 0 0 (2 * t) 0 < 0) : jT xs (d + 5) 210 23 0 [(0, (4, 0)), (1, (4, 1)), (2, (1, 2))] [] [jzS_251, (101, [], [1, 0, 0, 0, 2 * t, 0]), jgh, jgh, jgh, jgh, jgh, (130, [], [17, 18, 19, 20, 21, 22]), jgh, jgh, jgh, jgh, jgh, jgh, jgh, jgh, jgh, (100, [], (jenc (jlg 0))), (100, [], (jenc (jlg 1))), (100, [], (jenc (jlg 2))), (100, [], (jenc (jlg 3))), (100, [], (jenc (jlg 4))), (100, [], (jenc (jlg 5)))] 60 3210 (fun k v hsN => k = 0 ∧ v = (1, N) ∧ hsN = [jzS_251, (101, [], [1, 0, 0, 0, 2 * t, 0]), jgh, jgh, jgh, jgh, jgh, (130, [], [17, 18, 19, 20, 21, 22]), jgh, jgh, jgh, jgh, jgh, jgh, jgh, jgh, jgh, (100, [], (jenc (jlg 0))), (100, [], (jenc (jlg 1))), (100, [], (jenc (jlg 2))), (100, [], (jenc (jlg 3))), (100, [], (jenc (jlg 4))), (100, [], (jenc (jlg 5)))]) := by
  rcases (show d6 = N + 1 ∨ d6 = N by omega) with g_n | g_n
  · have g_0 : (jlz ((-2) * N - 1) 0 0 0 (2 * t) 0).sign < 0 := jsgn_n (Int.lt_of_le_of_lt (jlz_mono (by omega)) hB)
    have g_1 : 0 ≤ (jlz ((-2) * N + 1) 0 0 0 (2 * t) 0).sign := jsgn_p (Int.le_trans hA (jlz_mono (by omega)))
    refine jT_xaload_n (v := (4, 1)) (pcN := 1) jIS_210_0 rfl rfl rfl ?_
    refine jT_callA [1] (y := 211) (pcN := 4) (dC := 0) (bc1 := 0) (bc2 := 0) (c1 := 60) (c2 := 3210) (as := [(4, 1)]) (asC := [(4, 0)]) (LN := [(0, (4, 0)), (1, (4, 1)), (2, (1, 2))]) (stN := []) (hsC := [(101, [], [1, 0, 0, 0, 2 * t, 0])]) (ex := []) (v := (3, d4)) (st2 := [(3, d4)]) (hs2 := [jzS_251, (101, [], [1, 0, 0, 0, 2 * t, 0]), jgh, jgh, jgh, jgh, jgh, (130, [], [17, 18, 19, 20, 21, 22]), jgh, jgh, jgh, jgh, jgh, jgh, jgh, jgh, jgh, (100, [], (jenc (jlg 0))), (100, [], (jenc (jlg 1))), (100, [], (jenc (jlg 2))), (100, [], (jenc (jlg 3))), (100, [], (jenc (jlg 4))), (100, [], (jenc (jlg 5)))]) (jSl_ro_214 (d := 0) (by omega) fd1 fd2 fd3 fd4) (by rfl) (by rfl) (by rfl) (by rfl) ⟨rfl, trivial⟩ (by rfl) (by rfl) (by omega) (by show 23 ≤ 23; omega) (by omega) (by omega) rfl rfl ?_
    refine jT_xlload_n (v := (1, 2)) (pcN := 5) jIS_210_4 rfl rfl rfl ?_
    refine jT_l2d (x := 2) (z := 4611686018427387904) (by rfl) (by rfl) (by decide +kernel) ?_
    refine jT_ddiv (x := d4) (y := 4611686018427387904) (z := d5) (by rfl) (by rfl) fd5 ?_
    refine jT_d2l (x := d5) (z := d6) (by rfl) (by rfl) fd6 ?_
    refine jT_xlstore (v := (1, d6)) (LN := [(4, (1, d6)), (0, (4, 0)), (1, (4, 1)), (2, (1, 2))]) (pcN := 10) jIS_210_8 rfl rfl rfl rfl ?_
    refine jT_eq (LN := [(4, (1, N + 1)), (0, (4, 0)), (1, (4, 1)), (2, (1, 2))]) (stN := []) (hsN := [jzS_251, (101, [], [1, 0, 0, 0, 2 * t, 0]), jgh, jgh, jgh, jgh, jgh, (130, [], [17, 18, 19, 20, 21, 22]), jgh, jgh, jgh, jgh, jgh, jgh, jgh, jgh, jgh, (100, [], (jenc (jlg 0))), (100, [], (jenc (jlg 1))), (100, [], (jenc (jlg 2))), (100, [], (jenc (jlg 3))), (100, [], (jenc (jlg 4))), (100, [], (jenc (jlg 5)))]) (by rw [g_n]) rfl rfl ?_
    refine jT_xaload_n (v := (4, 0)) (pcN := 11) jIS_210_10 rfl rfl rfl ?_
    refine jT_xaload_n (v := (4, 1)) (pcN := 12) jIS_210_11 rfl rfl rfl ?_
    refine jT_xlload (v := (1, N + 1)) (pcN := 14) jIS_210_12 rfl rfl rfl ?_
    refine jT_xlload_n (v := (1, 2)) (pcN := 15) jIS_210_14 rfl rfl rfl ?_
    refine jT_xlmul (x := N + 1) (y := 2) (z := 2 * N + 2) (pcN := 16) jIS_210_15 rfl (by omega) rfl ?_
    refine jT_callA [0, 1, 2, 3, 4, 5, 6, 7, 8, 9, 10, 11, 12, 13, 14, 15, 16, 17, 18, 19, 20, 21, 22] (y := 212) (pcN := 19) (dC := 4) (bc1 := 20) (bc2 := 1070) (c1 := 40) (c2 := 2140) (as := [(4, 0), (4, 1), (1, 2 * N + 2)]) (asC := [(4, 0), (4, 1), (1, 2 * N + 2)]) (LN := [(4, (1, N + 1)), (0, (4, 0)), (1, (4, 1)), (2, (1, 2))]) (stN := []) (hsC := [jzS_251, (101, [], [1, 0, 0, 0, 2 * t, 0]), jgh, jgh, jgh, jgh, jgh, (130, [], [17, 18, 19, 20, 21, 22]), jgh, jgh, jgh, jgh, jgh, jgh, jgh, jgh, jgh, (100, [], (jenc (jlg 0))), (100, [], (jenc (jlg 1))), (100, [], (jenc (jlg 2))), (100, [], (jenc (jlg 3))), (100, [], (jenc (jlg 4))), (100, [], (jenc (jlg 5)))]) (ex := []) (v := (0, (jlz ((-2) * N - 1) 0 0 0 (2 * t) 0).sign)) (st2 := [(0, (jlz ((-2) * N - 1) 0 0 0 (2 * t) 0).sign)]) (hs2 := [jzS_251, (101, [], [1, 0, 0, 0, 2 * t, 0]), jgh, jgh, jgh, jgh, jgh, (130, [], [17, 18, 19, 20, 21, 22]), jgh, jgh, jgh, jgh, jgh, jgh, jgh, jgh, jgh, (100, [], (jenc (jlg 0))), (100, [], (jenc (jlg 1))), (100, [], (jenc (jlg 2))), (100, [], (jenc (jlg 3))), (100, [], (jenc (jlg 4))), (100, [], (jenc (jlg 5)))]) (jS_212_219 (d := 0) (by omega) (by omega) (by omega) (by omega)) (by rfl) (by rfl) (by rfl) (by rfl) ⟨rfl, rfl, rfl, rfl, rfl, rfl, rfl, rfl, rfl, rfl, rfl, rfl, rfl, rfl, rfl, rfl, rfl, rfl, rfl, rfl, rfl, rfl, rfl, trivial⟩ (by rfl) (by rfl) (by omega) (by show 23 ≤ 23; omega) (by omega) (by omega) rfl rfl ?_
    have hb_q1 := jsgn_b (jlz ((-2) * N - 1) 0 0 0 (2 * t) 0)
    generalize hq_q1 : (jlz ((-2) * N - 1) 0 0 0 (2 * t) 0).sign = q1 at hb_q1 g_0 ⊢
    refine jT_ifF (a := q1) (t := 31) (by rfl) (by rfl) (by rfl) (jw_idd (by omega) (by omega)) (by simp only [jcP] <;> omega) ?_
    refine jT_xlload (v := (1, N + 1)) (pcN := 24) jIS_210_22 rfl rfl rfl ?_
    refine jT_xlconst (z := 1) (pcN := 25) jIS_210_24 rfl rfl ?_
    refine jT_xlsub (x := N + 1) (y := 1) (z := N) (pcN := 26) jIS_210_25 rfl (by omega) rfl ?_
    refine jT_xlstore (v := (1, N)) (LN := [(4, (1, N)), (0, (4, 0)), (1, (4, 1)), (2, (1, 2))]) (pcN := 28) jIS_210_26 rfl rfl rfl rfl ?_
    refine jT_xgoto (pcN := 10) jIS_210_28 rfl ?_
    refine jT_xaload_n (v := (4, 0)) (pcN := 11) jIS_210_10 rfl rfl rfl ?_
    refine jT_xaload_n (v := (4, 1)) (pcN := 12) jIS_210_11 rfl rfl rfl ?_
    refine jT_xlload (v := (1, N)) (pcN := 14) jIS_210_12 rfl rfl rfl ?_
    refine jT_xlload_n (v := (1, 2)) (pcN := 15) jIS_210_14 rfl rfl rfl ?_
    refine jT_xlmul (x := N) (y := 2) (z := 2 * N) (pcN := 16) jIS_210_15 rfl (by omega) rfl ?_
    refine jT_callA [0, 1, 2, 3, 4, 5, 6, 7, 8, 9, 10, 11, 12, 13, 14, 15, 16, 17, 18, 19, 20, 21, 22] (y := 212) (pcN := 19) (dC := 4) (bc1 := 20) (bc2 := 1070) (c1 := 20) (c2 := 1070) (as := [(4, 0), (4, 1), (1, 2 * N)]) (asC := [(4, 0), (4, 1), (1, 2 * N)]) (LN := [(4, (1, N)), (0, (4, 0)), (1, (4, 1)), (2, (1, 2))]) (stN := []) (hsC := [jzS_251, (101, [], [1, 0, 0, 0, 2 * t, 0]), jgh, jgh, jgh, jgh, jgh, (130, [], [17, 18, 19, 20, 21, 22]), jgh, jgh, jgh, jgh, jgh, jgh, jgh, jgh, jgh, (100, [], (jenc (jlg 0))), (100, [], (jenc (jlg 1))), (100, [], (jenc (jlg 2))), (100, [], (jenc (jlg 3))), (100, [], (jenc (jlg 4))), (100, [], (jenc (jlg 5)))]) (ex := []) (v := (0, (jlz ((-2) * N + 1) 0 0 0 (2 * t) 0).sign)) (st2 := [(0, (jlz ((-2) * N + 1) 0 0 0 (2 * t) 0).sign)]) (hs2 := [jzS_251, (101, [], [1, 0, 0, 0, 2 * t, 0]), jgh, jgh, jgh, jgh, jgh, (130, [], [17, 18, 19, 20, 21, 22]), jgh, jgh, jgh, jgh, jgh, jgh, jgh, jgh, jgh, (100, [], (jenc (jlg 0))), (100, [], (jenc (jlg 1))), (100, [], (jenc (jlg 2))), (100, [], (jenc (jlg 3))), (100, [], (jenc (jlg 4))), (100, [], (jenc (jlg 5)))]) (jS_212_220 (d := 0) (by omega) (by omega) (by omega)) (by rfl) (by rfl) (by rfl) (by rfl) ⟨rfl, rfl, rfl, rfl, rfl, rfl, rfl, rfl, rfl, rfl, rfl, rfl, rfl, rfl, rfl, rfl, rfl, rfl, rfl, rfl, rfl, rfl, rfl, trivial⟩ (by rfl) (by rfl) (by omega) (by show 23 ≤ 23; omega) (by omega) (by omega) rfl rfl ?_
    have hb_q2 := jsgn_b (jlz ((-2) * N + 1) 0 0 0 (2 * t) 0)
    generalize hq_q2 : (jlz ((-2) * N + 1) 0 0 0 (2 * t) 0).sign = q2 at hb_q2 g_1 ⊢
    refine jT_ifT (a := q2) (t := 31) (by rfl) (by rfl) (by rfl) (jw_idd (by omega) (by omega)) (by simp only [jcP] <;> omega) ?_
    refine jT_xaload_n (v := (4, 0)) (pcN := 32) jIS_210_31 rfl rfl rfl ?_
    refine jT_xaload_n (v := (4, 1)) (pcN := 33) jIS_210_32 rfl rfl rfl ?_
    refine jT_xlload (v := (1, N)) (pcN := 35) jIS_210_33 rfl rfl rfl ?_
    refine jT_xlconst (z := 1) (pcN := 36) jIS_210_35 rfl rfl ?_
    refine jT_xladd (x := N) (y := 1) (z := N + 1) (pcN := 37) jIS_210_36 rfl (rfl) rfl ?_
    refine jT_xlload_n (v := (1, 2)) (pcN := 38) jIS_210_37 rfl rfl rfl ?_
    refine jT_xlmul (x := N + 1) (y := 2) (z := 2 * N + 2) (pcN := 39) jIS_210_38 rfl (by omega) rfl ?_
    refine jT_callA [0, 1, 2, 3, 4, 5, 6, 7, 8, 9, 10, 11, 12, 13, 14, 15, 16, 17, 18, 19, 20, 21, 22] (y := 212) (pcN := 42) (dC := 4) (bc1 := 20) (bc2 := 1070) (c1 := 0) (c2 := 0) (as := [(4, 0), (4, 1), (1, 2 * N + 2)]) (asC := [(4, 0), (4, 1), (1, 2 * N + 2)]) (LN := [(4, (1, N)), (0, (4, 0)), (1, (4, 1)), (2, (1, 2))]) (stN := []) (hsC := [jzS_251, (101, [], [1, 0, 0, 0, 2 * t, 0]), jgh, jgh, jgh, jgh, jgh, (130, [], [17, 18, 19, 20, 21, 22]), jgh, jgh, jgh, jgh, jgh, jgh, jgh, jgh, jgh, (100, [], (jenc (jlg 0))), (100, [], (jenc (jlg 1))), (100, [], (jenc (jlg 2))), (100, [], (jenc (jlg 3))), (100, [], (jenc (jlg 4))), (100, [], (jenc (jlg 5)))]) (ex := []) (v := (0, (jlz ((-2) * N - 1) 0 0 0 (2 * t) 0).sign)) (st2 := [(0, (jlz ((-2) * N - 1) 0 0 0 (2 * t) 0).sign)]) (hs2 := [jzS_251, (101, [], [1, 0, 0, 0, 2 * t, 0]), jgh, jgh, jgh, jgh, jgh, (130, [], [17, 18, 19, 20, 21, 22]), jgh, jgh, jgh, jgh, jgh, jgh, jgh, jgh, jgh, (100, [], (jenc (jlg 0))), (100, [], (jenc (jlg 1))), (100, [], (jenc (jlg 2))), (100, [], (jenc (jlg 3))), (100, [], (jenc (jlg 4))), (100, [], (jenc (jlg 5)))]) (jS_212_216 (d := 0) (by omega) (by omega)) (by rfl) (by rfl) (by rfl) (by rfl) ⟨rfl, rfl, rfl, rfl, rfl, rfl, rfl, rfl, rfl, rfl, rfl, rfl, rfl, rfl, rfl, rfl, rfl, rfl, rfl, rfl, rfl, rfl, rfl, trivial⟩ (by rfl) (by rfl) (by omega) (by show 23 ≤ 23; omega) (by omega) (by omega) rfl rfl ?_
    rw [hq_q1]
    refine jT_ifT (a := q1) (t := 54) (by rfl) (by rfl) (by rfl) (jw_idd (by omega) (by omega)) (by simp only [jcP] <;> omega) ?_
    refine jT_xlload (v := (1, N)) (pcN := 56) jIS_210_54 rfl rfl rfl ?_
    exact jT_ret rfl (by decide) (by show 23 ≤ 23; decide) (by omega) (by omega) ⟨rfl, rfl, rfl⟩
  · have g_0 : 0 ≤ (jlz ((-2) * N + 1) 0 0 0 (2 * t) 0).sign := jsgn_p (Int.le_trans hA (jlz_mono (by omega)))
    have g_1 : (jlz ((-2) * N - 1) 0 0 0 (2 * t) 0).sign < 0 := jsgn_n (Int.lt_of_le_of_lt (jlz_mono (by omega)) hB)
    refine jT_xaload_n (v := (4, 1)) (pcN := 1) jIS_210_0 rfl rfl rfl ?_
    refine jT_callA [1] (y := 211) (pcN := 4) (dC := 0) (bc1 := 0) (bc2 := 0) (c1 := 60) (c2 := 3210) (as := [(4, 1)]) (asC := [(4, 0)]) (LN := [(0, (4, 0)), (1, (4, 1)), (2, (1, 2))]) (stN := []) (hsC := [(101, [], [1, 0, 0, 0, 2 * t, 0])]) (ex := []) (v := (3, d4)) (st2 := [(3, d4)]) (hs2 := [jzS_251, (101, [], [1, 0, 0, 0, 2 * t, 0]), jgh, jgh, jgh, jgh, jgh, (130, [], [17, 18, 19, 20, 21, 22]), jgh, jgh, jgh, jgh, jgh, jgh, jgh, jgh, jgh, (100, [], (jenc (jlg 0))), (100, [], (jenc (jlg 1))), (100, [], (jenc (jlg 2))), (100, [], (jenc (jlg 3))), (100, [], (jenc (jlg 4))), (100, [], (jenc (jlg 5)))]) (jSl_ro_214 (d := 0) (by omega) fd1 fd2 fd3 fd4) (by rfl) (by rfl) (by rfl) (by rfl) ⟨rfl, trivial⟩ (by rfl) (by rfl) (by omega) (by show 23 ≤ 23; omega) (by omega) (by omega) rfl rfl ?_
    refine jT_xlload_n (v := (1, 2)) (pcN := 5) jIS_210_4 rfl rfl rfl ?_
    refine jT_l2d (x := 2) (z := 4611686018427387904) (by rfl) (by rfl) (by decide +kernel) ?_
    refine jT_ddiv (x := d4) (y := 4611686018427387904) (z := d5) (by rfl) (by rfl) fd5 ?_
    refine jT_d2l (x := d5) (z := d6) (by rfl) (by rfl) fd6 ?_
    refine jT_xlstore (v := (1, d6)) (LN := [(4, (1, d6)), (0, (4, 0)), (1, (4, 1)), (2, (1, 2))]) (pcN := 10) jIS_210_8 rfl rfl rfl rfl ?_
    refine jT_eq (LN := [(4, (1, N)), (0, (4, 0)), (1, (4, 1)), (2, (1, 2))]) (stN := []) (hsN := [jzS_251, (101, [], [1, 0, 0, 0, 2 * t, 0]), jgh, jgh, jgh, jgh, jgh, (130, [], [17, 18, 19, 20, 21, 22]), jgh, jgh, jgh, jgh, jgh, jgh, jgh, jgh, jgh, (100, [], (jenc (jlg 0))), (100, [], (jenc (jlg 1))), (100, [], (jenc (jlg 2))), (100, [], (jenc (jlg 3))), (100, [], (jenc (jlg 4))), (100, [], (jenc (jlg 5)))]) (by rw [g_n]) rfl rfl ?_
    refine jT_xaload_n (v := (4, 0)) (pcN := 11) jIS_210_10 rfl rfl rfl ?_
    refine jT_xaload_n (v := (4, 1)) (pcN := 12) jIS_210_11 rfl rfl rfl ?_
    refine jT_xlload (v := (1, N)) (pcN := 14) jIS_210_12 rfl rfl rfl ?_
    refine jT_xlload_n (v := (1, 2)) (pcN := 15) jIS_210_14 rfl rfl rfl ?_
    refine jT_xlmul (x := N) (y := 2) (z := 2 * N) (pcN := 16) jIS_210_15 rfl (by omega) rfl ?_
    refine jT_callA [0, 1, 2, 3, 4, 5, 6, 7, 8, 9, 10, 11, 12, 13, 14, 15, 16, 17, 18, 19, 20, 21, 22] (y := 212) (pcN := 19) (dC := 4) (bc1 := 20) (bc2 := 1070) (c1 := 40) (c2 := 2140) (as := [(4, 0), (4, 1), (1, 2 * N)]) (asC := [(4, 0), (4, 1), (1, 2 * N)]) (LN := [(4, (1, N)), (0, (4, 0)), (1, (4, 1)), (2, (1, 2))]) (stN := []) (hsC := [jzS_251, (101, [], [1, 0, 0, 0, 2 * t, 0]), jgh, jgh, jgh, jgh, jgh, (130, [], [17, 18, 19, 20, 21, 22]), jgh, jgh, jgh, jgh, jgh, jgh, jgh, jgh, jgh, (100, [], (jenc (jlg 0))), (100, [], (jenc (jlg 1))), (100, [], (jenc (jlg 2))), (100, [], (jenc (jlg 3))), (100, [], (jenc (jlg 4))), (100, [], (jenc (jlg 5)))]) (ex := []) (v := (0, (jlz ((-2) * N + 1) 0 0 0 (2 * t) 0).sign)) (st2 := [(0, (jlz ((-2) * N + 1) 0 0 0 (2 * t) 0).sign)]) (hs2 := [jzS_251, (101, [], [1, 0, 0, 0, 2 * t, 0]), jgh, jgh, jgh, jgh, jgh, (130, [], [17, 18, 19, 20, 21, 22]), jgh, jgh, jgh, jgh, jgh, jgh, jgh, jgh, jgh, (100, [], (jenc (jlg 0))), (100, [], (jenc (jlg 1))), (100, [], (jenc (jlg 2))), (100, [], (jenc (jlg 3))), (100, [], (jenc (jlg 4))), (100, [], (jenc (jlg 5)))]) (jS_212_221 (d := 0) (by omega) (by omega) (by omega) (by omega)) (by rfl) (by rfl) (by rfl) (by rfl) ⟨rfl, rfl, rfl, rfl, rfl, rfl, rfl, rfl, rfl, rfl, rfl, rfl, rfl, rfl, rfl, rfl, rfl, rfl, rfl, rfl, rfl, rfl, rfl, trivial⟩ (by rfl) (by rfl) (by omega) (by show 23 ≤ 23; omega) (by omega) (by omega) rfl rfl ?_
    have hb_q1 := jsgn_b (jlz ((-2) * N + 1) 0 0 0 (2 * t) 0)
    generalize hq_q1 : (jlz ((-2) * N + 1) 0 0 0 (2 * t) 0).sign = q1 at hb_q1 g_0 ⊢
    refine jT_ifT (a := q1) (t := 31) (by rfl) (by rfl) (by rfl) (jw_idd (by omega) (by omega)) (by simp only [jcP] <;> omega) ?_
    refine jT_xaload_n (v := (4, 0)) (pcN := 32) jIS_210_31 rfl rfl rfl ?_
    refine jT_xaload_n (v := (4, 1)) (pcN := 33) jIS_210_32 rfl rfl rfl ?_
    refine jT_xlload (v := (1, N)) (pcN := 35) jIS_210_33 rfl rfl rfl ?_
    refine jT_xlconst (z := 1) (pcN := 36) jIS_210_35 rfl rfl ?_
    refine jT_xladd (x := N) (y := 1) (z := N + 1) (pcN := 37) jIS_210_36 rfl (rfl) rfl ?_
    refine jT_xlload_n (v := (1, 2)) (pcN := 38) jIS_210_37 rfl rfl rfl ?_
    refine jT_xlmul (x := N + 1) (y := 2) (z := 2 * N + 2) (pcN := 39) jIS_210_38 rfl (by omega) rfl ?_
    refine jT_callA [0, 1, 2, 3, 4, 5, 6, 7, 8, 9, 10, 11, 12, 13, 14, 15, 16, 17, 18, 19, 20, 21, 22] (y := 212) (pcN := 42) (dC := 4) (bc1 := 20) (bc2 := 1070) (c1 := 20) (c2 := 1070) (as := [(4, 0), (4, 1), (1, 2 * N + 2)]) (asC := [(4, 0), (4, 1), (1, 2 * N + 2)]) (LN := [(4, (1, N)), (0, (4, 0)), (1, (4, 1)), (2, (1, 2))]) (stN := []) (hsC := [jzS_251, (101, [], [1, 0, 0, 0, 2 * t, 0]), jgh, jgh, jgh, jgh, jgh, (130, [], [17, 18, 19, 20, 21, 22]), jgh, jgh, jgh, jgh, jgh, jgh, jgh, jgh, jgh, (100, [], (jenc (jlg 0))), (100, [], (jenc (jlg 1))), (100, [], (jenc (jlg 2))), (100, [], (jenc (jlg 3))), (100, [], (jenc (jlg 4))), (100, [], (jenc (jlg 5)))]) (ex := []) (v := (0, (jlz ((-2) * N - 1) 0 0 0 (2 * t) 0).sign)) (st2 := [(0, (jlz ((-2) * N - 1) 0 0 0 (2 * t) 0).sign)]) (hs2 := [jzS_251, (101, [], [1, 0, 0, 0, 2 * t, 0]), jgh, jgh, jgh, jgh, jgh, (130, [], [17, 18, 19, 20, 21, 22]), jgh, jgh, jgh, jgh, jgh, jgh, jgh, jgh, jgh, (100, [], (jenc (jlg 0))), (100, [], (jenc (jlg 1))), (100, [], (jenc (jlg 2))), (100, [], (jenc (jlg 3))), (100, [], (jenc (jlg 4))), (100, [], (jenc (jlg 5)))]) (jS_212_217 (d := 0) (by omega) (by omega) (by omega)) (by rfl) (by rfl) (by rfl) (by rfl) ⟨rfl, rfl, rfl, rfl, rfl, rfl, rfl, rfl, rfl, rfl, rfl, rfl, rfl, rfl, rfl, rfl, rfl, rfl, rfl, rfl, rfl, rfl, rfl, trivial⟩ (by rfl) (by rfl) (by omega) (by show 23 ≤ 23; omega) (by omega) (by omega) rfl rfl ?_
    have hb_q2 := jsgn_b (jlz ((-2) * N - 1) 0 0 0 (2 * t) 0)
    generalize hq_q2 : (jlz ((-2) * N - 1) 0 0 0 (2 * t) 0).sign = q2 at hb_q2 g_1 ⊢
    refine jT_ifT (a := q2) (t := 54) (by rfl) (by rfl) (by rfl) (jw_idd (by omega) (by omega)) (by simp only [jcP] <;> omega) ?_
    refine jT_xlload (v := (1, N)) (pcN := 56) jIS_210_54 rfl rfl rfl ?_
    exact jT_ret rfl (by decide) (by show 23 ≤ 23; decide) (by omega) (by omega) ⟨rfl, rfl, rfl⟩
theorem jSl_ps_222 {xs : List Int} {d : Nat} {t : Int} (h_t : 1 ≤ t ∧ t ≤ 60) : jT xs (d + 5) 210 23 0 [(0, (4, 0)), (1, (4, 1)), (2, (1, 2))] [] [jzS_251, (101, [], [1, 0, 0, 0, 2 * t, 0]), jgh, jgh, jgh, jgh, jgh, (130, [], [17, 18, 19, 20, 21, 22]), jgh, jgh, jgh, jgh, jgh, jgh, jgh, jgh, jgh, (100, [], (jenc (jlg 0))), (100, [], (jenc (jlg 1))), (100, [], (jenc (jlg 2))), (100, [], (jenc (jlg 3))), (100, [], (jenc (jlg 4))), (100, [], (jenc (jlg 5)))] 60 3210 (fun k v hsN => k = 0 ∧ v = (1, jbp4 t) ∧ hsN = [jzS_251, (101, [], [1, 0, 0, 0, 2 * t, 0]), jgh, jgh, jgh, jgh, jgh, (130, [], [17, 18, 19, 20, 21, 22]), jgh, jgh, jgh, jgh, jgh, jgh, jgh, jgh, jgh, (100, [], (jenc (jlg 0))), (100, [], (jenc (jlg 1))), (100, [], (jenc (jlg 2))), (100, [], (jenc (jlg 3))), (100, [], (jenc (jlg 4))), (100, [], (jenc (jlg 5)))]) := by
  obtain ⟨d1, d2, d3, d4, d5, d6, fd1, fd2, fd3, fd4, fd5, fd6, h1, h2, h3, hA, hB⟩ := jbx_4 (p := t) (by omega)
  exact jSl_pc_215 (by omega) fd1 fd2 fd3 fd4 fd5 fd6 h3 h1 h2 hA hB
theorem jS_216_223 {xs : List Int} {d : Nat} {t : Int} (h_t : 1 ≤ t ∧ t ≤ 60) (g_0 : t - 61 < 0) : jT xs (d + 6) 216 23 0 [(0, (4, 0)), (1, (4, 1)), (2, (1, 1))] [] [jzS_251, (101, [], [0, 0, 0, 0, t, 0]), jgh, jgh, jgh, jgh, jgh, (130, [], [17, 18, 19, 20, 21, 22]), jgh, jgh, jgh, jgh, jgh, jgh, jgh, jgh, jgh, (100, [], (jenc (jlg 0))), (100, [], (jenc (jlg 1))), (100, [], (jenc (jlg 2))), (100, [], (jenc (jlg 3))), (100, [], (jenc (jlg 4))), (100, [], (jenc (jlg 5)))] 61 3216 (fun k v hsN => k = 0 ∧ v = (1, jbp4 t) ∧ hsN = [jzS_251, (101, [], [0, 0, 0, 0, t, 0]), jgh, jgh, jgh, jgh, jgh, (130, [], [17, 18, 19, 20, 21, 22]), jgh, jgh, jgh, jgh, jgh, jgh, jgh, jgh, jgh, (100, [], (jenc (jlg 0))), (100, [], (jenc (jlg 1))), (100, [], (jenc (jlg 2))), (100, [], (jenc (jlg 3))), (100, [], (jenc (jlg 4))), (100, [], (jenc (jlg 5)))] ++ []) := by
  refine jT_xbipush (k := 6) (pcN := 2) jIS_216_0 (by decide) rfl ?_
  refine jT_adv 1 (pcN := 4) (LN := [(0, (4, 0)), (1, (4, 1)), (2, (1, 1))]) (stN := [(4, 23)]) (hsN := [jzS_251, (101, [], [0, 0, 0, 0, t, 0]), jgh, jgh, jgh, jgh, jgh, (130, [], [17, 18, 19, 20, 21, 22]), jgh, jgh, jgh, jgh, jgh, jgh, jgh, jgh, jgh, (100, [], (jenc (jlg 0))), (100, [], (jenc (jlg 1))), (100, [], (jenc (jlg 2))), (100, [], (jenc (jlg 3))), (100, [], (jenc (jlg 4))), (100, [], (jenc (jlg 5))), (101, [], [0, 0, 0, 0, 0, 0])]) (c1 := 1) (s1 := 6) (c2 := 60) (s2 := 3210) (by exact rfl) ?_ (by omega) (by omega)
  refine jT_xastore (v := (4, 23)) (LN := [(4, (4, 23)), (0, (4, 0)), (1, (4, 1)), (2, (1, 1))]) (pcN := 6) jIS_216_4 rfl rfl rfl rfl ?_
  refine jT_xiconst (k := 0) (pcN := 7) jIS_216_6 rfl ?_
  refine jT_xistore (v := (0, 0)) (LN := [(5, (0, 0)), (4, (4, 23)), (0, (4, 0)), (1, (4, 1)), (2, (1, 1))]) (pcN := 9) jIS_216_7 rfl rfl rfl rfl ?_
  refine jT_xiload (v := (0, 0)) (pcN := 11) jIS_216_9 rfl rfl rfl ?_
  refine jT_xbipush (k := 6) (pcN := 13) jIS_216_11 (by decide) rfl ?_
  refine jT_xicF (t := 35) (pcN := 16) jIS_216_13 rfl (by decide +kernel) rfl rfl ?_
  refine jT_xaload (v := (4, 23)) (pcN := 18) jIS_216_16 rfl rfl rfl ?_
  refine jT_xiload (v := (0, 0)) (pcN := 20) jIS_216_18 rfl rfl rfl ?_
  refine jT_adv 1 (pcN := 23) (LN := [(5, (0, 0)), (4, (4, 23)), (0, (4, 0)), (1, (4, 1)), (2, (1, 1))]) (stN := [(1, 2), (0, 0), (4, 23)]) (hsN := [jzS_251, (101, [], [0, 0, 0, 0, t, 0]), jgh, jgh, jgh, jgh, jgh, (130, [], [17, 18, 19, 20, 21, 22]), jgh, jgh, jgh, jgh, jgh, jgh, jgh, jgh, jgh, (100, [], (jenc (jlg 0))), (100, [], (jenc (jlg 1))), (100, [], (jenc (jlg 2))), (100, [], (jenc (jlg 3))), (100, [], (jenc (jlg 4))), (100, [], (jenc (jlg 5))), (101, [], [0, 0, 0, 0, 0, 0])]) (c1 := 0) (s1 := 0) (c2 := 60) (s2 := 3210) (by exact rfl) ?_ (by omega) (by omega)
  refine jT_xaload_n (v := (4, 1)) (pcN := 24) jIS_216_23 rfl rfl rfl ?_
  refine jT_xiload (v := (0, 0)) (pcN := 26) jIS_216_24 rfl rfl rfl ?_
  refine jT_lald (x := 0) (a := 1) (j := 0) (fs := []) (X := [0, 0, 0, 0, t, 0]) jIS_216_26 rfl rfl rfl rfl ?_
  refine jT_eq (LN := [(5, (0, 0)), (4, (4, 23)), (0, (4, 0)), (1, (4, 1)), (2, (1, 1))]) (stN := [(1, 0), (1, 2), (0, 0), (4, 23)]) (hsN := [jzS_251, (101, [], [0, 0, 0, 0, t, 0]), jgh, jgh, jgh, jgh, jgh, (130, [], [17, 18, 19, 20, 21, 22]), jgh, jgh, jgh, jgh, jgh, jgh, jgh, jgh, jgh, (100, [], (jenc (jlg 0))), (100, [], (jenc (jlg 1))), (100, [], (jenc (jlg 2))), (100, [], (jenc (jlg 3))), (100, [], (jenc (jlg 4))), (100, [], (jenc (jlg 5))), (101, [], [0, 0, 0, 0, 0, 0])]) rfl rfl rfl ?_
  refine jT_xlmul (x := 2) (y := 0) (z := 0) (pcN := 28) jIS_216_27 rfl (by decide) rfl ?_
  refine jT_adv 1 (pcN := 29) (LN := [(5, (0, 0)), (4, (4, 23)), (0, (4, 0)), (1, (4, 1)), (2, (1, 1))]) (stN := []) (hsN := [jzS_251, (101, [], [0, 0, 0, 0, t, 0]), jgh, jgh, jgh, jgh, jgh, (130, [], [17, 18, 19, 20, 21, 22]), jgh, jgh, jgh, jgh, jgh, jgh, jgh, jgh, jgh, (100, [], (jenc (jlg 0))), (100, [], (jenc (jlg 1))), (100, [], (jenc (jlg 2))), (100, [], (jenc (jlg 3))), (100, [], (jenc (jlg 4))), (100, [], (jenc (jlg 5))), (101, [], [0, 0, 0, 0, 0, 0])]) (c1 := 0) (s1 := 0) (c2 := 60) (s2 := 3210) (by exact rfl) ?_ (by omega) (by omega)
  refine jT_xiinc (x := 0) (z := 1) (LN := [(5, (0, 1)), (4, (4, 23)), (0, (4, 0)), (1, (4, 1)), (2, (1, 1))]) (pcN := 32) jIS_216_29 rfl rfl (by decide) rfl rfl ?_
  refine jT_xgoto (pcN := 9) jIS_216_32 rfl ?_
  refine jT_xiload (v := (0, 1)) (pcN := 11) jIS_216_9 rfl rfl rfl ?_
  refine jT_xbipush (k := 6) (pcN := 13) jIS_216_11 (by decide) rfl ?_
  refine jT_xicF (t := 35) (pcN := 16) jIS_216_13 rfl (by decide +kernel) rfl rfl ?_
  refine jT_xaload (v := (4, 23)) (pcN := 18) jIS_216_16 rfl rfl rfl ?_
  refine jT_xiload (v := (0, 1)) (pcN := 20) jIS_216_18 rfl rfl rfl ?_
  refine jT_adv 1 (pcN := 23) (LN := [(5, (0, 1)), (4, (4, 23)), (0, (4, 0)), (1, (4, 1)), (2, (1, 1))]) (stN := [(1, 2), (0, 1), (4, 23)]) (hsN := [jzS_251, (101, [], [0, 0, 0, 0, t, 0]), jgh, jgh, jgh, jgh, jgh, (130, [], [17, 18, 19, 20, 21, 22]), jgh, jgh, jgh, jgh, jgh, jgh, jgh, jgh, jgh, (100, [], (jenc (jlg 0))), (100, [], (jenc (jlg 1))), (100, [], (jenc (jlg 2))), (100, [], (jenc (jlg 3))), (100, [], (jenc (jlg 4))), (100, [], (jenc (jlg 5))), (101, [], [0, 0, 0, 0, 0, 0])]) (c1 := 0) (s1 := 0) (c2 := 60) (s2 := 3210) (by exact rfl) ?_ (by omega) (by omega)
  refine jT_xaload_n (v := (4, 1)) (pcN := 24) jIS_216_23 rfl rfl rfl ?_
  refine jT_xiload (v := (0, 1)) (pcN := 26) jIS_216_24 rfl rfl rfl ?_
  refine jT_lald (x := 0) (a := 1) (j := 1) (fs := []) (X := [0, 0, 0, 0, t, 0]) jIS_216_26 rfl rfl rfl rfl ?_
  refine jT_eq (LN := [(5, (0, 1)), (4, (4, 23)), (0, (4, 0)), (1, (4, 1)), (2, (1, 1))]) (stN := [(1, 0), (1, 2), (0, 1), (4, 23)]) (hsN := [jzS_251, (101, [], [0, 0, 0, 0, t, 0]), jgh, jgh, jgh, jgh, jgh, (130, [], [17, 18, 19, 20, 21, 22]), jgh, jgh, jgh, jgh, jgh, jgh, jgh, jgh, jgh, (100, [], (jenc (jlg 0))), (100, [], (jenc (jlg 1))), (100, [], (jenc (jlg 2))), (100, [], (jenc (jlg 3))), (100, [], (jenc (jlg 4))), (100, [], (jenc (jlg 5))), (101, [], [0, 0, 0, 0, 0, 0])]) rfl rfl rfl ?_
  refine jT_xlmul (x := 2) (y := 0) (z := 0) (pcN := 28) jIS_216_27 rfl (by decide) rfl ?_
  refine jT_adv 1 (pcN := 29) (LN := [(5, (0, 1)), (4, (4, 23)), (0, (4, 0)), (1, (4, 1)), (2, (1, 1))]) (stN := []) (hsN := [jzS_251, (101, [], [0, 0, 0, 0, t, 0]), jgh, jgh, jgh, jgh, jgh, (130, [], [17, 18, 19, 20, 21, 22]), jgh, jgh, jgh, jgh, jgh, jgh, jgh, jgh, jgh, (100, [], (jenc (jlg 0))), (100, [], (jenc (jlg 1))), (100, [], (jenc (jlg 2))), (100, [], (jenc (jlg 3))), (100, [], (jenc (jlg 4))), (100, [], (jenc (jlg 5))), (101, [], [0, 0, 0, 0, 0, 0])]) (c1 := 0) (s1 := 0) (c2 := 60) (s2 := 3210) (by exact rfl) ?_ (by omega) (by omega)
  refine jT_xiinc (x := 1) (z := 2) (LN := [(5, (0, 2)), (4, (4, 23)), (0, (4, 0)), (1, (4, 1)), (2, (1, 1))]) (pcN := 32) jIS_216_29 rfl rfl (by decide) rfl rfl ?_
  refine jT_xgoto (pcN := 9) jIS_216_32 rfl ?_
  refine jT_xiload (v := (0, 2)) (pcN := 11) jIS_216_9 rfl rfl rfl ?_
  refine jT_xbipush (k := 6) (pcN := 13) jIS_216_11 (by decide) rfl ?_
  refine jT_xicF (t := 35) (pcN := 16) jIS_216_13 rfl (by decide +kernel) rfl rfl ?_
  refine jT_xaload (v := (4, 23)) (pcN := 18) jIS_216_16 rfl rfl rfl ?_
  refine jT_xiload (v := (0, 2)) (pcN := 20) jIS_216_18 rfl rfl rfl ?_
  refine jT_adv 1 (pcN := 23) (LN := [(5, (0, 2)), (4, (4, 23)), (0, (4, 0)), (1, (4, 1)), (2, (1, 1))]) (stN := [(1, 2), (0, 2), (4, 23)]) (hsN := [jzS_251, (101, [], [0, 0, 0, 0, t, 0]), jgh, jgh, jgh, jgh, jgh, (130, [], [17, 18, 19, 20, 21, 22]), jgh, jgh, jgh, jgh, jgh, jgh, jgh, jgh, jgh, (100, [], (jenc (jlg 0))), (100, [], (jenc (jlg 1))), (100, [], (jenc (jlg 2))), (100, [], (jenc (jlg 3))), (100, [], (jenc (jlg 4))), (100, [], (jenc (jlg 5))), (101, [], [0, 0, 0, 0, 0, 0])]) (c1 := 0) (s1 := 0) (c2 := 60) (s2 := 3210) (by exact rfl) ?_ (by omega) (by omega)
  refine jT_xaload_n (v := (4, 1)) (pcN := 24) jIS_216_23 rfl rfl rfl ?_
  refine jT_xiload (v := (0, 2)) (pcN := 26) jIS_216_24 rfl rfl rfl ?_
  refine jT_lald (x := 0) (a := 1) (j := 2) (fs := []) (X := [0, 0, 0, 0, t, 0]) jIS_216_26 rfl rfl rfl rfl ?_
  refine jT_eq (LN := [(5, (0, 2)), (4, (4, 23)), (0, (4, 0)), (1, (4, 1)), (2, (1, 1))]) (stN := [(1, 0), (1, 2), (0, 2), (4, 23)]) (hsN := [jzS_251, (101, [], [0, 0, 0, 0, t, 0]), jgh, jgh, jgh, jgh, jgh, (130, [], [17, 18, 19, 20, 21, 22]), jgh, jgh, jgh, jgh, jgh, jgh, jgh, jgh, jgh, (100, [], (jenc (jlg 0))), (100, [], (jenc (jlg 1))), (100, [], (jenc (jlg 2))), (100, [], (jenc (jlg 3))), (100, [], (jenc (jlg 4))), (100, [], (jenc (jlg 5))), (101, [], [0, 0, 0, 0, 0, 0])]) rfl rfl rfl ?_
  refine jT_xlmul (x := 2) (y := 0) (z := 0) (pcN := 28) jIS_216_27 rfl (by decide) rfl ?_
  refine jT_adv 1 (pcN := 29) (LN := [(5, (0, 2)), (4, (4, 23)), (0, (4, 0)), (1, (4, 1)), (2, (1, 1))]) (stN := []) (hsN := [jzS_251, (101, [], [0, 0, 0, 0, t, 0]), jgh, jgh, jgh, jgh, jgh, (130, [], [17, 18, 19, 20, 21, 22]), jgh, jgh, jgh, jgh, jgh, jgh, jgh, jgh, jgh, (100, [], (jenc (jlg 0))), (100, [], (jenc (jlg 1))), (100, [], (jenc (jlg 2))), (100, [], (jenc (jlg 3))), (100, [], (jenc (jlg 4))), (100, [], (jenc (jlg 5))), (101, [], [0, 0, 0, 0, 0, 0])]) (c1 := 0) (s1 := 0) (c2 := 60) (s2 := 3210) (by exact rfl) ?_ (by omega) (by omega)
  refine jT_xiinc (x := 2) (z := 3) (LN := [(5, (0, 3)), (4, (4, 23)), (0, (4, 0)), (1, (4, 1)), (2, (1, 1))]) (pcN := 32) jIS_216_29 rfl rfl (by decide) rfl rfl ?_
  refine jT_xgoto (pcN := 9) jIS_216_32 rfl ?_
  refine jT_xiload (v := (0, 3)) (pcN := 11) jIS_216_9 rfl rfl rfl ?_
  refine jT_xbipush (k := 6) (pcN := 13) jIS_216_11 (by decide) rfl ?_
  refine jT_xicF (t := 35) (pcN := 16) jIS_216_13 rfl (by decide +kernel) rfl rfl ?_
  refine jT_xaload (v := (4, 23)) (pcN := 18) jIS_216_16 rfl rfl rfl ?_
  refine jT_xiload (v := (0, 3)) (pcN := 20) jIS_216_18 rfl rfl rfl ?_
  refine jT_adv 1 (pcN := 23) (LN := [(5, (0, 3)), (4, (4, 23)), (0, (4, 0)), (1, (4, 1)), (2, (1, 1))]) (stN := [(1, 2), (0, 3), (4, 23)]) (hsN := [jzS_251, (101, [], [0, 0, 0, 0, t, 0]), jgh, jgh, jgh, jgh, jgh, (130, [], [17, 18, 19, 20, 21, 22]), jgh, jgh, jgh, jgh, jgh, jgh, jgh, jgh, jgh, (100, [], (jenc (jlg 0))), (100, [], (jenc (jlg 1))), (100, [], (jenc (jlg 2))), (100, [], (jenc (jlg 3))), (100, [], (jenc (jlg 4))), (100, [], (jenc (jlg 5))), (101, [], [0, 0, 0, 0, 0, 0])]) (c1 := 0) (s1 := 0) (c2 := 60) (s2 := 3210) (by exact rfl) ?_ (by omega) (by omega)
  refine jT_xaload_n (v := (4, 1)) (pcN := 24) jIS_216_23 rfl rfl rfl ?_
  refine jT_xiload (v := (0, 3)) (pcN := 26) jIS_216_24 rfl rfl rfl ?_
  refine jT_lald (x := 0) (a := 1) (j := 3) (fs := []) (X := [0, 0, 0, 0, t, 0]) jIS_216_26 rfl rfl rfl rfl ?_
  refine jT_eq (LN := [(5, (0, 3)), (4, (4, 23)), (0, (4, 0)), (1, (4, 1)), (2, (1, 1))]) (stN := [(1, 0), (1, 2), (0, 3), (4, 23)]) (hsN := [jzS_251, (101, [], [0, 0, 0, 0, t, 0]), jgh, jgh, jgh, jgh, jgh, (130, [], [17, 18, 19, 20, 21, 22]), jgh, jgh, jgh, jgh, jgh, jgh, jgh, jgh, jgh, (100, [], (jenc (jlg 0))), (100, [], (jenc (jlg 1))), (100, [], (jenc (jlg 2))), (100, [], (jenc (jlg 3))), (100, [], (jenc (jlg 4))), (100, [], (jenc (jlg 5))), (101, [], [0, 0, 0, 0, 0, 0])]) rfl rfl rfl ?_
  refine jT_xlmul (x := 2) (y := 0) (z := 0) (pcN := 28) jIS_216_27 rfl (by decide) rfl ?_
  refine jT_adv 1 (pcN := 29) (LN := [(5, (0, 3)), (4, (4, 23)), (0, (4, 0)), (1, (4, 1)), (2, (1, 1))]) (stN := []) (hsN := [jzS_251, (101, [], [0, 0, 0, 0, t, 0]), jgh, jgh, jgh, jgh, jgh, (130, [], [17, 18, 19, 20, 21, 22]), jgh, jgh, jgh, jgh, jgh, jgh, jgh, jgh, jgh, (100, [], (jenc (jlg 0))), (100, [], (jenc (jlg 1))), (100, [], (jenc (jlg 2))), (100, [], (jenc (jlg 3))), (100, [], (jenc (jlg 4))), (100, [], (jenc (jlg 5))), (101, [], [0, 0, 0, 0, 0, 0])]) (c1 := 0) (s1 := 0) (c2 := 60) (s2 := 3210) (by exact rfl) ?_ (by omega) (by omega)
  refine jT_xiinc (x := 3) (z := 4) (LN := [(5, (0, 4)), (4, (4, 23)), (0, (4, 0)), (1, (4, 1)), (2, (1, 1))]) (pcN := 32) jIS_216_29 rfl rfl (by decide) rfl rfl ?_
  refine jT_xgoto (pcN := 9) jIS_216_32 rfl ?_
  refine jT_xiload (v := (0, 4)) (pcN := 11) jIS_216_9 rfl rfl rfl ?_
  refine jT_xbipush (k := 6) (pcN := 13) jIS_216_11 (by decide) rfl ?_
  refine jT_xicF (t := 35) (pcN := 16) jIS_216_13 rfl (by decide +kernel) rfl rfl ?_
  refine jT_xaload (v := (4, 23)) (pcN := 18) jIS_216_16 rfl rfl rfl ?_
  refine jT_xiload (v := (0, 4)) (pcN := 20) jIS_216_18 rfl rfl rfl ?_
  refine jT_adv 1 (pcN := 23) (LN := [(5, (0, 4)), (4, (4, 23)), (0, (4, 0)), (1, (4, 1)), (2, (1, 1))]) (stN := [(1, 2), (0, 4), (4, 23)]) (hsN := [jzS_251, (101, [], [0, 0, 0, 0, t, 0]), jgh, jgh, jgh, jgh, jgh, (130, [], [17, 18, 19, 20, 21, 22]), jgh, jgh, jgh, jgh, jgh, jgh, jgh, jgh, jgh, (100, [], (jenc (jlg 0))), (100, [], (jenc (jlg 1))), (100, [], (jenc (jlg 2))), (100, [], (jenc (jlg 3))), (100, [], (jenc (jlg 4))), (100, [], (jenc (jlg 5))), (101, [], [0, 0, 0, 0, 0, 0])]) (c1 := 0) (s1 := 0) (c2 := 60) (s2 := 3210) (by exact rfl) ?_ (by omega) (by omega)
  refine jT_xaload_n (v := (4, 1)) (pcN := 24) jIS_216_23 rfl rfl rfl ?_
  refine jT_xiload (v := (0, 4)) (pcN := 26) jIS_216_24 rfl rfl rfl ?_
  refine jT_lald (x := t) (a := 1) (j := 4) (fs := []) (X := [0, 0, 0, 0, t, 0]) jIS_216_26 rfl rfl rfl rfl ?_
  refine jT_eq (LN := [(5, (0, 4)), (4, (4, 23)), (0, (4, 0)), (1, (4, 1)), (2, (1, 1))]) (stN := [(1, t), (1, 2), (0, 4), (4, 23)]) (hsN := [jzS_251, (101, [], [0, 0, 0, 0, t, 0]), jgh, jgh, jgh, jgh, jgh, (130, [], [17, 18, 19, 20, 21, 22]), jgh, jgh, jgh, jgh, jgh, jgh, jgh, jgh, jgh, (100, [], (jenc (jlg 0))), (100, [], (jenc (jlg 1))), (100, [], (jenc (jlg 2))), (100, [], (jenc (jlg 3))), (100, [], (jenc (jlg 4))), (100, [], (jenc (jlg 5))), (101, [], [0, 0, 0, 0, 0, 0])]) rfl rfl rfl ?_
  refine jT_xlmul (x := 2) (y := t) (z := 2 * t) (pcN := 28) jIS_216_27 rfl (rfl) rfl ?_
  refine jT_adv 1 (pcN := 29) (LN := [(5, (0, 4)), (4, (4, 23)), (0, (4, 0)), (1, (4, 1)), (2, (1, 1))]) (stN := []) (hsN := [jzS_251, (101, [], [0, 0, 0, 0, t, 0]), jgh, jgh, jgh, jgh, jgh, (130, [], [17, 18, 19, 20, 21, 22]), jgh, jgh, jgh, jgh, jgh, jgh, jgh, jgh, jgh, (100, [], (jenc (jlg 0))), (100, [], (jenc (jlg 1))), (100, [], (jenc (jlg 2))), (100, [], (jenc (jlg 3))), (100, [], (jenc (jlg 4))), (100, [], (jenc (jlg 5))), (101, [], [0, 0, 0, 0, 2 * t, 0])]) (c1 := 0) (s1 := 0) (c2 := 60) (s2 := 3210) (by exact rfl) ?_ (by omega) (by omega)
  refine jT_xiinc (x := 4) (z := 5) (LN := [(5, (0, 5)), (4, (4, 23)), (0, (4, 0)), (1, (4, 1)), (2, (1, 1))]) (pcN := 32) jIS_216_29 rfl rfl (by decide) rfl rfl ?_
  refine jT_xgoto (pcN := 9) jIS_216_32 rfl ?_
  refine jT_xiload (v := (0, 5)) (pcN := 11) jIS_216_9 rfl rfl rfl ?_
  refine jT_xbipush (k := 6) (pcN := 13) jIS_216_11 (by decide) rfl ?_
  refine jT_xicF (t := 35) (pcN := 16) jIS_216_13 rfl (by decide +kernel) rfl rfl ?_
  refine jT_xaload (v := (4, 23)) (pcN := 18) jIS_216_16 rfl rfl rfl ?_
  refine jT_xiload (v := (0, 5)) (pcN := 20) jIS_216_18 rfl rfl rfl ?_
  refine jT_adv 1 (pcN := 23) (LN := [(5, (0, 5)), (4, (4, 23)), (0, (4, 0)), (1, (4, 1)), (2, (1, 1))]) (stN := [(1, 2), (0, 5), (4, 23)]) (hsN := [jzS_251, (101, [], [0, 0, 0, 0, t, 0]), jgh, jgh, jgh, jgh, jgh, (130, [], [17, 18, 19, 20, 21, 22]), jgh, jgh, jgh, jgh, jgh, jgh, jgh, jgh, jgh, (100, [], (jenc (jlg 0))), (100, [], (jenc (jlg 1))), (100, [], (jenc (jlg 2))), (100, [], (jenc (jlg 3))), (100, [], (jenc (jlg 4))), (100, [], (jenc (jlg 5))), (101, [], [0, 0, 0, 0, 2 * t, 0])]) (c1 := 0) (s1 := 0) (c2 := 60) (s2 := 3210) (by exact rfl) ?_ (by omega) (by omega)
  refine jT_xaload_n (v := (4, 1)) (pcN := 24) jIS_216_23 rfl rfl rfl ?_
  refine jT_xiload (v := (0, 5)) (pcN := 26) jIS_216_24 rfl rfl rfl ?_
  refine jT_lald (x := 0) (a := 1) (j := 5) (fs := []) (X := [0, 0, 0, 0, t, 0]) jIS_216_26 rfl rfl rfl rfl ?_
  refine jT_eq (LN := [(5, (0, 5)), (4, (4, 23)), (0, (4, 0)), (1, (4, 1)), (2, (1, 1))]) (stN := [(1, 0), (1, 2), (0, 5), (4, 23)]) (hsN := [jzS_251, (101, [], [0, 0, 0, 0, t, 0]), jgh, jgh, jgh, jgh, jgh, (130, [], [17, 18, 19, 20, 21, 22]), jgh, jgh, jgh, jgh, jgh, jgh, jgh, jgh, jgh, (100, [], (jenc (jlg 0))), (100, [], (jenc (jlg 1))), (100, [], (jenc (jlg 2))), (100, [], (jenc (jlg 3))), (100, [], (jenc (jlg 4))), (100, [], (jenc (jlg 5))), (101, [], [0, 0, 0, 0, 2 * t, 0])]) rfl rfl rfl ?_
  refine jT_xlmul (x := 2) (y := 0) (z := 0) (pcN := 28) jIS_216_27 rfl (by decide) rfl ?_
  refine jT_adv 1 (pcN := 29) (LN := [(5, (0, 5)), (4, (4, 23)), (0, (4, 0)), (1, (4, 1)), (2, (1, 1))]) (stN := []) (hsN := [jzS_251, (101, [], [0, 0, 0, 0, t, 0]), jgh, jgh, jgh, jgh, jgh, (130, [], [17, 18, 19, 20, 21, 22]), jgh, jgh, jgh, jgh, jgh, jgh, jgh, jgh, jgh, (100, [], (jenc (jlg 0))), (100, [], (jenc (jlg 1))), (100, [], (jenc (jlg 2))), (100, [], (jenc (jlg 3))), (100, [], (jenc (jlg 4))), (100, [], (jenc (jlg 5))), (101, [], [0, 0, 0, 0, 2 * t, 0])]) (c1 := 0) (s1 := 0) (c2 := 60) (s2 := 3210) (by exact rfl) ?_ (by omega) (by omega)
  refine jT_xiinc (x := 5) (z := 6) (LN := [(5, (0, 6)), (4, (4, 23)), (0, (4, 0)), (1, (4, 1)), (2, (1, 1))]) (pcN := 32) jIS_216_29 rfl rfl (by decide) rfl rfl ?_
  refine jT_xgoto (pcN := 9) jIS_216_32 rfl ?_
  refine jT_xiload (v := (0, 6)) (pcN := 11) jIS_216_9 rfl rfl rfl ?_
  refine jT_xbipush (k := 6) (pcN := 13) jIS_216_11 (by decide) rfl ?_
  refine jT_xicT (pcN := 35) jIS_216_13 rfl (by decide +kernel) rfl ?_
  refine jT_xaload (v := (4, 23)) (pcN := 37) jIS_216_35 rfl rfl rfl ?_
  refine jT_xiconst (k := 0) (pcN := 38) jIS_216_37 rfl ?_
  refine jT_adv 1 (pcN := 39) (LN := [(5, (0, 6)), (4, (4, 23)), (0, (4, 0)), (1, (4, 1)), (2, (1, 1))]) (stN := [(0, 0), (4, 23), (0, 0), (4, 23)]) (hsN := [jzS_251, (101, [], [0, 0, 0, 0, t, 0]), jgh, jgh, jgh, jgh, jgh, (130, [], [17, 18, 19, 20, 21, 22]), jgh, jgh, jgh, jgh, jgh, jgh, jgh, jgh, jgh, (100, [], (jenc (jlg 0))), (100, [], (jenc (jlg 1))), (100, [], (jenc (jlg 2))), (100, [], (jenc (jlg 3))), (100, [], (jenc (jlg 4))), (100, [], (jenc (jlg 5))), (101, [], [0, 0, 0, 0, 2 * t, 0])]) (c1 := 0) (s1 := 0) (c2 := 60) (s2 := 3210) (by exact rfl) ?_ (by omega) (by omega)
  refine jT_lald (x := 0) (a := 23) (j := 0) (fs := []) (X := [0, 0, 0, 0, 2 * t, 0]) jIS_216_39 rfl rfl rfl rfl ?_
  refine jT_eq (LN := [(5, (0, 6)), (4, (4, 23)), (0, (4, 0)), (1, (4, 1)), (2, (1, 1))]) (stN := [(1, 0), (0, 0), (4, 23)]) (hsN := [jzS_251, (101, [], [0, 0, 0, 0, t, 0]), jgh, jgh, jgh, jgh, jgh, (130, [], [17, 18, 19, 20, 21, 22]), jgh, jgh, jgh, jgh, jgh, jgh, jgh, jgh, jgh, (100, [], (jenc (jlg 0))), (100, [], (jenc (jlg 1))), (100, [], (jenc (jlg 2))), (100, [], (jenc (jlg 3))), (100, [], (jenc (jlg 4))), (100, [], (jenc (jlg 5))), (101, [], [0, 0, 0, 0, 2 * t, 0])]) rfl rfl rfl ?_
  refine jT_xlload_n (v := (1, 1)) (pcN := 41) jIS_216_40 rfl rfl rfl ?_
  refine jT_xladd (x := 0) (y := 1) (z := 1) (pcN := 42) jIS_216_41 rfl (by decide) rfl ?_
  refine jT_adv 1 (pcN := 43) (LN := [(5, (0, 6)), (4, (4, 23)), (0, (4, 0)), (1, (4, 1)), (2, (1, 1))]) (stN := []) (hsN := [jzS_251, (101, [], [0, 0, 0, 0, t, 0]), jgh, jgh, jgh, jgh, jgh, (130, [], [17, 18, 19, 20, 21, 22]), jgh, jgh, jgh, jgh, jgh, jgh, jgh, jgh, jgh, (100, [], (jenc (jlg 0))), (100, [], (jenc (jlg 1))), (100, [], (jenc (jlg 2))), (100, [], (jenc (jlg 3))), (100, [], (jenc (jlg 4))), (100, [], (jenc (jlg 5))), (101, [], [1, 0, 0, 0, 2 * t, 0])]) (c1 := 0) (s1 := 0) (c2 := 60) (s2 := 3210) (by exact rfl) ?_ (by omega) (by omega)
  refine jT_xaload_n (v := (4, 0)) (pcN := 44) jIS_216_43 rfl rfl rfl ?_
  refine jT_xaload (v := (4, 23)) (pcN := 46) jIS_216_44 rfl rfl rfl ?_
  refine jT_adv 1 (pcN := 49) (LN := [(5, (0, 6)), (4, (4, 23)), (0, (4, 0)), (1, (4, 1)), (2, (1, 1))]) (stN := [(1, 2), (4, 23), (4, 0)]) (hsN := [jzS_251, (101, [], [0, 0, 0, 0, t, 0]), jgh, jgh, jgh, jgh, jgh, (130, [], [17, 18, 19, 20, 21, 22]), jgh, jgh, jgh, jgh, jgh, jgh, jgh, jgh, jgh, (100, [], (jenc (jlg 0))), (100, [], (jenc (jlg 1))), (100, [], (jenc (jlg 2))), (100, [], (jenc (jlg 3))), (100, [], (jenc (jlg 4))), (100, [], (jenc (jlg 5))), (101, [], [1, 0, 0, 0, 2 * t, 0])]) (c1 := 0) (s1 := 0) (c2 := 60) (s2 := 3210) (by exact rfl) ?_ (by omega) (by omega)
  refine jT_xlload_n (v := (1, 1)) (pcN := 50) jIS_216_49 rfl rfl rfl ?_
  refine jT_xlmul (x := 2) (y := 1) (z := 2) (pcN := 51) jIS_216_50 rfl (by decide) rfl ?_
  refine jT_callA [0, 23, 2, 3, 4, 5, 6, 7, 8, 9, 10, 11, 12, 13, 14, 15, 16, 17, 18, 19, 20, 21, 22] (y := 210) (pcN := 54) (dC := 5) (bc1 := 60) (bc2 := 3210) (c1 := 0) (c2 := 0) (as := [(4, 0), (4, 23), (1, 2)]) (asC := [(4, 0), (4, 1), (1, 2)]) (LN := [(5, (0, 6)), (4, (4, 23)), (0, (4, 0)), (1, (4, 1)), (2, (1, 1))]) (stN := []) (hsC := [jzS_251, (101, [], [1, 0, 0, 0, 2 * t, 0]), jgh, jgh, jgh, jgh, jgh, (130, [], [17, 18, 19, 20, 21, 22]), jgh, jgh, jgh, jgh, jgh, jgh, jgh, jgh, jgh, (100, [], (jenc (jlg 0))), (100, [], (jenc (jlg 1))), (100, [], (jenc (jlg 2))), (100, [], (jenc (jlg 3))), (100, [], (jenc (jlg 4))), (100, [], (jenc (jlg 5)))]) (ex := []) (v := (1, jbp4 t)) (st2 := [(1, jbp4 t)]) (hs2 := [jzS_251, (101, [], [0, 0, 0, 0, t, 0]), jgh, jgh, jgh, jgh, jgh, (130, [], [17, 18, 19, 20, 21, 22]), jgh, jgh, jgh, jgh, jgh, jgh, jgh, jgh, jgh, (100, [], (jenc (jlg 0))), (100, [], (jenc (jlg 1))), (100, [], (jenc (jlg 2))), (100, [], (jenc (jlg 3))), (100, [], (jenc (jlg 4))), (100, [], (jenc (jlg 5))), (101, [], [1, 0, 0, 0, 2 * t, 0])]) (jSl_ps_222 (d := 0) (by omega)) (by rfl) (by rfl) (by rfl) (by rfl) ⟨rfl, rfl, rfl, rfl, rfl, rfl, rfl, rfl, rfl, rfl, rfl, rfl, rfl, rfl, rfl, rfl, rfl, rfl, rfl, rfl, rfl, rfl, rfl, trivial⟩ (by rfl) (by rfl) (by omega) (by show 23 ≤ 24; omega) (by omega) (by omega) rfl rfl ?_
  have hb_q1 := jbp_b4 (p := t) (by omega)
  generalize hq_q1 : jbp4 t = q1 at hb_q1 ⊢
  refine jT_loc (LN := [(5, (0, 6))]) (by show List.Nodup [5]; decide) (by intro q hq; simp only [List.mem_cons, List.not_mem_nil, or_false] at hq; rcases hq with rfl <;> rfl) ?_
  refine jT_drop 23 (hs0 := [jzS_251, (101, [], [0, 0, 0, 0, t, 0]), jgh, jgh, jgh, jgh, jgh, (130, [], [17, 18, 19, 20, 21, 22]), jgh, jgh, jgh, jgh, jgh, jgh, jgh, jgh, jgh, (100, [], (jenc (jlg 0))), (100, [], (jenc (jlg 1))), (100, [], (jenc (jlg 2))), (100, [], (jenc (jlg 3))), (100, [], (jenc (jlg 4))), (100, [], (jenc (jlg 5)))]) (ex := [(101, [], [1, 0, 0, 0, 2 * t, 0])]) rfl rfl rfl (by decide) ?_
  subst hq_q1
  exact jT_ret rfl (by decide) (by show 23 ≤ 23; omega) (by omega) (by omega) ⟨rfl, rfl, rfl⟩
theorem jS_297_224 {xs : List Int} {d : Nat} {t : Int} (h_t : 1 ≤ t ∧ t ≤ 60) (g_0 : t - 61 < 0) : jT xs (d + 7) 297 22 0 [(0, (4, 0)), (1, (0, t)), (2, (0, 4))] [] jpS_447 62 3222 (fun k v hsN => k = 0 ∧ v = (0, jbp4 t) ∧ hsN = jpS_447 ++ []) := by
  refine jT_xbipush (k := 6) (pcN := 2) jIS_297_0 (by decide) rfl ?_
  refine jT_adv 1 (pcN := 4) (LN := [(0, (4, 0)), (1, (0, t)), (2, (0, 4))]) (stN := [(4, 22)]) (hsN := jpS_437) (c1 := 1) (s1 := 6) (c2 := 61) (s2 := 3216) (by exact rfl) ?_ (by omega) (by omega)
  refine jT_xastore_n (v := (4, 22)) (LN := [(3, (4, 22)), (0, (4, 0)), (1, (0, t)), (2, (0, 4))]) (pcN := 5) jIS_297_4 rfl rfl rfl rfl ?_
  refine jT_xaload_n (v := (4, 22)) (pcN := 6) jIS_297_5 rfl rfl rfl ?_
  refine jT_xiload_n (v := (0, 4)) (pcN := 7) jIS_297_6 rfl rfl rfl ?_
  refine jT_xiload_n (v := (0, t)) (pcN := 8) jIS_297_7 rfl rfl rfl ?_
  refine jT_xi2l (x := t) (z := t) (pcN := 9) jIS_297_8 rfl (jw_idd (by omega) (by omega)) rfl ?_
  refine jT_adv 1 (pcN := 10) (LN := [(3, (4, 22)), (0, (4, 0)), (1, (0, t)), (2, (0, 4))]) (stN := []) (hsN := [jzS_244, jgh, jgh, jgh, jgh, jgh, (130, [], [16, 17, 18, 19, 20, 21]), jgh, jgh, jgh, jgh, jgh, jgh, jgh, jgh, jgh, (100, [], (jenc (jlg 0))), (100, [], (jenc (jlg 1))), (100, [], (jenc (jlg 2))), (100, [], (jenc (jlg 3))), (100, [], (jenc (jlg 4))), (100, [], (jenc (jlg 5))), (101, [], [0, 0, 0, 0, t, 0])]) (c1 := 0) (s1 := 0) (c2 := 61) (s2 := 3216) (by exact rfl) ?_ (by omega) (by omega)
  refine jT_xaload_n (v := (4, 0)) (pcN := 11) jIS_297_10 rfl rfl rfl ?_
  refine jT_xaload_n (v := (4, 22)) (pcN := 12) jIS_297_11 rfl rfl rfl ?_
  refine jT_xlconst (z := 1) (pcN := 13) jIS_297_12 rfl rfl ?_
  refine jT_callA [0, 22, 1, 2, 3, 4, 5, 6, 7, 8, 9, 10, 11, 12, 13, 14, 15, 16, 17, 18, 19, 20, 21] (y := 216) (pcN := 16) (dC := 6) (bc1 := 61) (bc2 := 3216) (c1 := 0) (c2 := 0) (as := [(4, 0), (4, 22), (1, 1)]) (asC := [(4, 0), (4, 1), (1, 1)]) (LN := [(3, (4, 22)), (0, (4, 0)), (1, (0, t)), (2, (0, 4))]) (stN := []) (hsC := [jzS_251, (101, [], [0, 0, 0, 0, t, 0]), jgh, jgh, jgh, jgh, jgh, (130, [], [17, 18, 19, 20, 21, 22]), jgh, jgh, jgh, jgh, jgh, jgh, jgh, jgh, jgh, (100, [], (jenc (jlg 0))), (100, [], (jenc (jlg 1))), (100, [], (jenc (jlg 2))), (100, [], (jenc (jlg 3))), (100, [], (jenc (jlg 4))), (100, [], (jenc (jlg 5)))]) (ex := []) (v := (1, jbp4 t)) (st2 := [(1, jbp4 t)]) (hs2 := [jzS_244, jgh, jgh, jgh, jgh, jgh, (130, [], [16, 17, 18, 19, 20, 21]), jgh, jgh, jgh, jgh, jgh, jgh, jgh, jgh, jgh, (100, [], (jenc (jlg 0))), (100, [], (jenc (jlg 1))), (100, [], (jenc (jlg 2))), (100, [], (jenc (jlg 3))), (100, [], (jenc (jlg 4))), (100, [], (jenc (jlg 5))), (101, [], [0, 0, 0, 0, t, 0])]) (jS_216_223 (d := 0) (by omega) (by omega)) (by rfl) (by rfl) (by rfl) (by rfl) ⟨rfl, rfl, rfl, rfl, rfl, rfl, rfl, rfl, rfl, rfl, rfl, rfl, rfl, rfl, rfl, rfl, rfl, rfl, rfl, rfl, rfl, rfl, rfl, trivial⟩ (by rfl) (by rfl) (by omega) (by show 22 ≤ 23; omega) (by omega) (by omega) rfl rfl ?_
  have hb_q1 := jbp_b4 (p := t) (by omega)
  generalize hq_q1 : jbp4 t = q1 at hb_q1 ⊢
  refine jT_xl2i (pcN := 17) jIS_297_16 rfl rfl ?_
  refine jT_loc (LN := [(0, (4, 0))]) (by show List.Nodup [0]; decide) (by intro q hq; simp only [List.mem_cons, List.not_mem_nil, or_false] at hq; rcases hq with rfl <;> rfl) ?_
  refine jT_drop 22 (hs0 := jpS_447) (ex := [(101, [], [0, 0, 0, 0, t, 0])]) rfl rfl rfl (by decide) ?_
  subst hq_q1
  exact jT_ret rfl (by decide) (by show 22 ≤ 22; omega) (by omega) (by omega) ⟨rfl, rfl, rfl⟩
theorem jSl_ro_225 {xs : List Int} {d : Nat} {t : Int} (h_t : 1 ≤ t ∧ t ≤ 60) {d1 d2 d3 : Int} (fd1 : ((FP.l2d (Int64.ofInt (2 * t))).toNat : Int) = d1) (fd2 : jn64 (FP.dmul (ju64 4615515068267881011) (ju64 d1)) = true ∧ ((FP.dmul (ju64 4615515068267881011) (ju64 d1)).toNat : Int) = d2) (fd3 : jn64 (FP.dadd (ju64 4607182418800017408) (ju64 d2)) = true ∧ ((FP.dadd (ju64 4607182418800017408) (ju64 d2)).toNat : Int) = d3) : jT xs d 211 1 0 [(0, (4, 0))] [] [(101, [], [1, 0, 0, 0, 0, 2 * t])] 0 0 (fun k v hsN => k = 0 ∧ v = (3, d3) ∧ hsN = [(101, [], [1, 0, 0, 0, 0, 2 * t])]) := by
  refine jT_xaload_n (v := (4, 0)) (pcN := 1) jIS_211_0 rfl rfl rfl ?_
  refine jT_xiconst (k := 0) (pcN := 2) jIS_211_1 rfl ?_
  refine jT_lald (x := 1) (a := 0) (j := 0) (fs := []) (X := [1, 0, 0, 0, 0, 2 * t]) jIS_211_2 rfl rfl rfl rfl ?_
  refine jT_eq (LN := [(0, (4, 0))]) (stN := [(1, 1)]) (hsN := [(101, [], [1, 0, 0, 0, 0, 2 * t])]) rfl rfl rfl ?_
  refine jT_l2d (x := 1) (z := 4607182418800017408) (by rfl) (by rfl) (by decide +kernel) ?_
  refine jT_adv 1 (pcN := 7) (LN := [(0, (4, 0))]) (stN := [(3, 4609816855700290920), (3, 4607182418800017408)]) (hsN := [(101, [], [1, 0, 0, 0, 0, 2 * t])]) (c1 := 0) (s1 := 0) (c2 := 0) (s2 := 0) (by exact rfl) ?_ (by omega) (by omega)
  refine jT_xaload_n (v := (4, 0)) (pcN := 8) jIS_211_7 rfl rfl rfl ?_
  refine jT_xiconst (k := 1) (pcN := 9) jIS_211_8 rfl ?_
  refine jT_lald (x := 0) (a := 0) (j := 1) (fs := []) (X := [1, 0, 0, 0, 0, 2 * t]) jIS_211_9 rfl rfl rfl rfl ?_
  refine jT_eq (LN := [(0, (4, 0))]) (stN := [(1, 0), (3, 4609816855700290920), (3, 4607182418800017408)]) (hsN := [(101, [], [1, 0, 0, 0, 0, 2 * t])]) rfl rfl rfl ?_
  refine jT_l2d (x := 0) (z := 0) (by rfl) (by rfl) (by decide +kernel) ?_
  refine jT_dmul (x := 4609816855700290920) (y := 0) (z := 0) (by rfl) (by rfl) (by decide +kernel) ?_
  refine jT_dadd (x := 4607182418800017408) (y := 0) (z := 4607182418800017408) (by rfl) (by rfl) (by decide +kernel) ?_
  refine jT_adv 1 (pcN := 16) (LN := [(0, (4, 0))]) (stN := [(3, 4612410936051475313), (3, 4607182418800017408)]) (hsN := [(101, [], [1, 0, 0, 0, 0, 2 * t])]) (c1 := 0) (s1 := 0) (c2 := 0) (s2 := 0) (by exact rfl) ?_ (by omega) (by omega)
  refine jT_xaload_n (v := (4, 0)) (pcN := 17) jIS_211_16 rfl rfl rfl ?_
  refine jT_xiconst (k := 2) (pcN := 18) jIS_211_17 rfl ?_
  refine jT_lald (x := 0) (a := 0) (j := 2) (fs := []) (X := [1, 0, 0, 0, 0, 2 * t]) jIS_211_18 rfl rfl rfl rfl ?_
  refine jT_eq (LN := [(0, (4, 0))]) (stN := [(1, 0), (3, 4612410936051475313), (3, 4607182418800017408)]) (hsN := [(101, [], [1, 0, 0, 0, 0, 2 * t])]) rfl rfl rfl ?_
  refine jT_l2d (x := 0) (z := 0) (by rfl) (by rfl) (by decide +kernel) ?_
  refine jT_dmul (x := 4612410936051475313) (y := 0) (z := 0) (by rfl) (by rfl) (by decide +kernel) ?_
  refine jT_dadd (x := 4607182418800017408) (y := 0) (z := 4607182418800017408) (by rfl) (by rfl) (by decide +kernel) ?_
  refine jT_adv 1 (pcN := 25) (LN := [(0, (4, 0))]) (stN := [(3, 4613504020090455085), (3, 4607182418800017408)]) (hsN := [(101, [], [1, 0, 0, 0, 0, 2 * t])]) (c1 := 0) (s1 := 0) (c2 := 0) (s2 := 0) (by exact rfl) ?_ (by omega) (by omega)
  refine jT_xaload_n (v := (4, 0)) (pcN := 26) jIS_211_25 rfl rfl rfl ?_
  refine jT_xiconst (k := 3) (pcN := 27) jIS_211_26 rfl ?_
  refine jT_lald (x := 0) (a := 0) (j := 3) (fs := []) (X := [1, 0, 0, 0, 0, 2 * t]) jIS_211_27 rfl rfl rfl rfl ?_
  refine jT_eq (LN := [(0, (4, 0))]) (stN := [(1, 0), (3, 4613504020090455085), (3, 4607182418800017408)]) (hsN := [(101, [], [1, 0, 0, 0, 0, 2 * t])]) rfl rfl rfl ?_
  refine jT_l2d (x := 0) (z := 0) (by rfl) (by rfl) (by decide +kernel) ?_
  refine jT_dmul (x := 4613504020090455085) (y := 0) (z := 0) (by rfl) (by rfl) (by decide +kernel) ?_
  refine jT_dadd (x := 4607182418800017408) (y := 0) (z := 4607182418800017408) (by rfl) (by rfl) (by decide +kernel) ?_
  refine jT_adv 1 (pcN := 34) (LN := [(0, (4, 0))]) (stN := [(3, 4614972366274321729), (3, 4607182418800017408)]) (hsN := [(101, [], [1, 0, 0, 0, 0, 2 * t])]) (c1 := 0) (s1 := 0) (c2 := 0) (s2 := 0) (by exact rfl) ?_ (by omega) (by omega)
  refine jT_xaload_n (v := (4, 0)) (pcN := 35) jIS_211_34 rfl rfl rfl ?_
  refine jT_xiconst (k := 4) (pcN := 36) jIS_211_35 rfl ?_
  refine jT_lald (x := 0) (a := 0) (j := 4) (fs := []) (X := [1, 0, 0, 0, 0, 2 * t]) jIS_211_36 rfl rfl rfl rfl ?_
  refine jT_eq (LN := [(0, (4, 0))]) (stN := [(1, 0), (3, 4614972366274321729), (3, 4607182418800017408)]) (hsN := [(101, [], [1, 0, 0, 0, 0, 2 * t])]) rfl rfl rfl ?_
  refine jT_l2d (x := 0) (z := 0) (by rfl) (by rfl) (by decide +kernel) ?_
  refine jT_dmul (x := 4614972366274321729) (y := 0) (z := 0) (by rfl) (by rfl) (by decide +kernel) ?_
  refine jT_dadd (x := 4607182418800017408) (y := 0) (z := 4607182418800017408) (by rfl) (by rfl) (by decide +kernel) ?_
  refine jT_adv 1 (pcN := 43) (LN := [(0, (4, 0))]) (stN := [(3, 4615515068267881011), (3, 4607182418800017408)]) (hsN := [(101, [], [1, 0, 0, 0, 0, 2 * t])]) (c1 := 0) (s1 := 0) (c2 := 0) (s2 := 0) (by exact rfl) ?_ (by omega) (by omega)
  refine jT_xaload_n (v := (4, 0)) (pcN := 44) jIS_211_43 rfl rfl rfl ?_
  refine jT_xiconst (k := 5) (pcN := 45) jIS_211_44 rfl ?_
  refine jT_lald (x := 2 * t) (a := 0) (j := 5) (fs := []) (X := [1, 0, 0, 0, 0, 2 * t]) jIS_211_45 rfl rfl rfl rfl ?_
  refine jT_eq (LN := [(0, (4, 0))]) (stN := [(1, 2 * t), (3, 4615515068267881011), (3, 4607182418800017408)]) (hsN := [(101, [], [1, 0, 0, 0, 0, 2 * t])]) rfl rfl rfl ?_
  refine jT_l2d (x := 2 * t) (z := d1) (by rfl) (by rfl) fd1 ?_
  refine jT_dmul (x := 4615515068267881011) (y := d1) (z := d2) (by rfl) (by rfl) fd2 ?_
  refine jT_dadd (x := 4607182418800017408) (y := d2) (z := d3) (by rfl) (by rfl) fd3 ?_
  exact jT_ret rfl (by decide) (by show 1 ≤ 1; decide) (by omega) (by omega) ⟨rfl, rfl, rfl⟩
theorem jS_212_227 {xs : List Int} {d : Nat} {N t : Int} (h_N : (-1099511627776) ≤ N ∧ N ≤ 1099511627776) (h_t : 1 ≤ t ∧ t ≤ 60) : jT xs (d + 4) 212 23 0 [(0, (4, 0)), (1, (4, 1)), (2, (1, 2 * N + 2))] [] [jzS_251, (101, [], [1, 0, 0, 0, 0, 2 * t]), jgh, jgh, jgh, jgh, jgh, (130, [], [17, 18, 19, 20, 21, 22]), jgh, jgh, jgh, jgh, jgh, jgh, jgh, jgh, jgh, (100, [], (jenc (jlg 0))), (100, [], (jenc (jlg 1))), (100, [], (jenc (jlg 2))), (100, [], (jenc (jlg 3))), (100, [], (jenc (jlg 4))), (100, [], (jenc (jlg 5)))] 20 1070 (fun k v hsN => k = 0 ∧ v = (0, (jlz ((-2) * N - 1) 0 0 0 0 (2 * t)).sign) ∧ hsN = [jzS_251, (101, [], [1, 0, 0, 0, 0, 2 * t]), jgh, jgh, jgh, jgh, jgh, (130, [], [17, 18, 19, 20, 21, 22]), jgh, jgh, jgh, jgh, jgh, jgh, jgh, jgh, jgh, (100, [], (jenc (jlg 0))), (100, [], (jenc (jlg 1))), (100, [], (jenc (jlg 2))), (100, [], (jenc (jlg 3))), (100, [], (jenc (jlg 4))), (100, [], (jenc (jlg 5)))] ++ []) := by
  refine jT_xbipush (k := 6) (pcN := 2) jIS_212_0 (by decide) rfl ?_
  refine jT_adv 1 (pcN := 4) (LN := [(0, (4, 0)), (1, (4, 1)), (2, (1, 2 * N + 2))]) (stN := [(4, 23)]) (hsN := [jzS_251, (101, [], [1, 0, 0, 0, 0, 2 * t]), jgh, jgh, jgh, jgh, jgh, (130, [], [17, 18, 19, 20, 21, 22]), jgh, jgh, jgh, jgh, jgh, jgh, jgh, jgh, jgh, (100, [], (jenc (jlg 0))), (100, [], (jenc (jlg 1))), (100, [], (jenc (jlg 2))), (100, [], (jenc (jlg 3))), (100, [], (jenc (jlg 4))), (100, [], (jenc (jlg 5))), (101, [], [0, 0, 0, 0, 0, 0])]) (c1 := 1) (s1 := 6) (c2 := 19) (s2 := 1064) (by exact rfl) ?_ (by omega) (by omega)
  refine jT_xastore (v := (4, 23)) (LN := [(4, (4, 23)), (0, (4, 0)), (1, (4, 1)), (2, (1, 2 * N + 2))]) (pcN := 6) jIS_212_4 rfl rfl rfl rfl ?_
  refine jT_xaload_n (v := (4, 1)) (pcN := 7) jIS_212_6 rfl rfl rfl ?_
  refine jT_xiconst (k := 0) (pcN := 8) jIS_212_7 rfl ?_
  refine jT_xaload (v := (4, 23)) (pcN := 10) jIS_212_8 rfl rfl rfl ?_
  refine jT_xiconst (k := 0) (pcN := 11) jIS_212_10 rfl ?_
  refine jT_xbipush (k := 6) (pcN := 13) jIS_212_11 (by decide) rfl ?_
  refine jT_adv 1 (pcN := 16) (LN := [(4, (4, 23)), (0, (4, 0)), (1, (4, 1)), (2, (1, 2 * N + 2))]) (stN := []) (hsN := [jzS_251, (101, [], [1, 0, 0, 0, 0, 2 * t]), jgh, jgh, jgh, jgh, jgh, (130, [], [17, 18, 19, 20, 21, 22]), jgh, jgh, jgh, jgh, jgh, jgh, jgh, jgh, jgh, (100, [], (jenc (jlg 0))), (100, [], (jenc (jlg 1))), (100, [], (jenc (jlg 2))), (100, [], (jenc (jlg 3))), (100, [], (jenc (jlg 4))), (100, [], (jenc (jlg 5))), (101, [], [1, 0, 0, 0, 0, 2 * t])]) (c1 := 0) (s1 := 0) (c2 := 19) (s2 := 1064) (by exact rfl) ?_ (by omega) (by omega)
  refine jT_xaload (v := (4, 23)) (pcN := 18) jIS_212_16 rfl rfl rfl ?_
  refine jT_xiconst (k := 0) (pcN := 19) jIS_212_18 rfl ?_
  refine jT_adv 1 (pcN := 20) (LN := [(4, (4, 23)), (0, (4, 0)), (1, (4, 1)), (2, (1, 2 * N + 2))]) (stN := [(0, 0), (4, 23), (0, 0), (4, 23)]) (hsN := [jzS_251, (101, [], [1, 0, 0, 0, 0, 2 * t]), jgh, jgh, jgh, jgh, jgh, (130, [], [17, 18, 19, 20, 21, 22]), jgh, jgh, jgh, jgh, jgh, jgh, jgh, jgh, jgh, (100, [], (jenc (jlg 0))), (100, [], (jenc (jlg 1))), (100, [], (jenc (jlg 2))), (100, [], (jenc (jlg 3))), (100, [], (jenc (jlg 4))), (100, [], (jenc (jlg 5))), (101, [], [1, 0, 0, 0, 0, 2 * t])]) (c1 := 0) (s1 := 0) (c2 := 19) (s2 := 1064) (by exact rfl) ?_ (by omega) (by omega)
  refine jT_lald (x := 1) (a := 23) (j := 0) (fs := []) (X := [1, 0, 0, 0, 0, 2 * t]) jIS_212_20 rfl rfl rfl rfl ?_
  refine jT_eq (LN := [(4, (4, 23)), (0, (4, 0)), (1, (4, 1)), (2, (1, 2 * N + 2))]) (stN := [(1, 1), (0, 0), (4, 23)]) (hsN := [jzS_251, (101, [], [1, 0, 0, 0, 0, 2 * t]), jgh, jgh, jgh, jgh, jgh, (130, [], [17, 18, 19, 20, 21, 22]), jgh, jgh, jgh, jgh, jgh, jgh, jgh, jgh, jgh, (100, [], (jenc (jlg 0))), (100, [], (jenc (jlg 1))), (100, [], (jenc (jlg 2))), (100, [], (jenc (jlg 3))), (100, [], (jenc (jlg 4))), (100, [], (jenc (jlg 5))), (101, [], [1, 0, 0, 0, 0, 2 * t])]) rfl rfl rfl ?_
  refine jT_xlload_n (v := (1, 2 * N + 2)) (pcN := 22) jIS_212_21 rfl rfl rfl ?_
  refine jT_xlsub (x := 1) (y := 2 * N + 2) (z := (-2) * N - 1) (pcN := 23) jIS_212_22 rfl (by omega) rfl ?_
  refine jT_adv 1 (pcN := 24) (LN := [(4, (4, 23)), (0, (4, 0)), (1, (4, 1)), (2, (1, 2 * N + 2))]) (stN := []) (hsN := [jzS_251, (101, [], [1, 0, 0, 0, 0, 2 * t]), jgh, jgh, jgh, jgh, jgh, (130, [], [17, 18, 19, 20, 21, 22]), jgh, jgh, jgh, jgh, jgh, jgh, jgh, jgh, jgh, (100, [], (jenc (jlg 0))), (100, [], (jenc (jlg 1))), (100, [], (jenc (jlg 2))), (100, [], (jenc (jlg 3))), (100, [], (jenc (jlg 4))), (100, [], (jenc (jlg 5))), (101, [], [(-2) * N - 1, 0, 0, 0, 0, 2 * t])]) (c1 := 0) (s1 := 0) (c2 := 19) (s2 := 1064) (by exact rfl) ?_ (by omega) (by omega)
  refine jT_xaload_n (v := (4, 0)) (pcN := 25) jIS_212_24 rfl rfl rfl ?_
  refine jT_xaload (v := (4, 23)) (pcN := 27) jIS_212_25 rfl rfl rfl ?_
  refine jT_callA [0, 23, 2, 3, 4, 5, 6, 7, 8, 9, 10, 11, 12, 13, 14, 15, 16, 17, 18, 19, 20, 21, 22] (y := 213) (pcN := 30) (dC := 3) (bc1 := 19) (bc2 := 1064) (c1 := 0) (c2 := 0) (as := [(4, 0), (4, 23)]) (asC := [(4, 0), (4, 1)]) (LN := [(4, (4, 23)), (0, (4, 0)), (1, (4, 1)), (2, (1, 2 * N + 2))]) (stN := []) (hsC := [jzS_251, (101, [], [(-2) * N - 1, 0, 0, 0, 0, 2 * t]), jgh, jgh, jgh, jgh, jgh, (130, [], [17, 18, 19, 20, 21, 22]), jgh, jgh, jgh, jgh, jgh, jgh, jgh, jgh, jgh, (100, [], (jenc (jlg 0))), (100, [], (jenc (jlg 1))), (100, [], (jenc (jlg 2))), (100, [], (jenc (jlg 3))), (100, [], (jenc (jlg 4))), (100, [], (jenc (jlg 5)))]) (ex := []) (v := (0, (jlz ((-2) * N - 1) 0 0 0 0 (2 * t)).sign)) (st2 := [(0, (jlz ((-2) * N - 1) 0 0 0 0 (2 * t)).sign)]) (hs2 := [jzS_251, (101, [], [1, 0, 0, 0, 0, 2 * t]), jgh, jgh, jgh, jgh, jgh, (130, [], [17, 18, 19, 20, 21, 22]), jgh, jgh, jgh, jgh, jgh, jgh, jgh, jgh, jgh, (100, [], (jenc (jlg 0))), (100, [], (jenc (jlg 1))), (100, [], (jenc (jlg 2))), (100, [], (jenc (jlg 3))), (100, [], (jenc (jlg 4))), (100, [], (jenc (jlg 5))), (101, [], [(-2) * N - 1, 0, 0, 0, 0, 2 * t])]) (jSl_sg_157 (d := 0) (e0 := (-2) * N - 1) (e1 := 0) (e2 := 0) (e3 := 0) (e4 := 0) (e5 := 2 * t) (by omega) (by omega) (by omega) (by omega) (by omega) (by omega)) (by rfl) (by rfl) (by rfl) (by rfl) ⟨rfl, rfl, rfl, rfl, rfl, rfl, rfl, rfl, rfl, rfl, rfl, rfl, rfl, rfl, rfl, rfl, rfl, rfl, rfl, rfl, rfl, rfl, rfl, trivial⟩ (by rfl) (by rfl) (by omega) (by show 23 ≤ 24; omega) (by omega) (by omega) rfl rfl ?_
  have hb_q1 := jsgn_b (jlz ((-2) * N - 1) 0 0 0 0 (2 * t))
  generalize hq_q1 : (jlz ((-2) * N - 1) 0 0 0 0 (2 * t)).sign = q1 at hb_q1 ⊢
  refine jT_loc (LN := [(0, (4, 0))]) (by show List.Nodup [0]; decide) (by intro q hq; simp only [List.mem_cons, List.not_mem_nil, or_false] at hq; rcases hq with rfl <;> rfl) ?_
  refine jT_drop 23 (hs0 := [jzS_251, (101, [], [1, 0, 0, 0, 0, 2 * t]), jgh, jgh, jgh, jgh, jgh, (130, [], [17, 18, 19, 20, 21, 22]), jgh, jgh, jgh, jgh, jgh, jgh, jgh, jgh, jgh, (100, [], (jenc (jlg 0))), (100, [], (jenc (jlg 1))), (100, [], (jenc (jlg 2))), (100, [], (jenc (jlg 3))), (100, [], (jenc (jlg 4))), (100, [], (jenc (jlg 5)))]) (ex := [(101, [], [(-2) * N - 1, 0, 0, 0, 0, 2 * t])]) rfl rfl rfl (by decide) ?_
  subst hq_q1
  exact jT_ret rfl (by decide) (by show 23 ≤ 23; omega) (by omega) (by omega) ⟨rfl, rfl, rfl⟩
theorem jS_212_228 {xs : List Int} {d : Nat} {N t : Int} (h_N : (-1099511627776) ≤ N ∧ N ≤ 1099511627776) (h_t : 1 ≤ t ∧ t ≤ 60) (g_0 : (jlz ((-2) * N - 1) 0 0 0 0 (2 * t)).sign < 0) : jT xs (d + 4) 212 23 0 [(0, (4, 0)), (1, (4, 1)), (2, (1, 2 * N + 2))] [] [jzS_251, (101, [], [1, 0, 0, 0, 0, 2 * t]), jgh, jgh, jgh, jgh, jgh, (130, [], [17, 18, 19, 20, 21, 22]), jgh, jgh, jgh, jgh, jgh, jgh, jgh, jgh, jgh, (100, [], (jenc (jlg 0))), (100, [], (jenc (jlg 1))), (100, [], (jenc (jlg 2))), (100, [], (jenc (jlg 3))), (100, [], (jenc (jlg 4))), (100, [], (jenc (jlg 5)))] 20 1070 (fun k v hsN => k = 0 ∧ v = (0, (jlz ((-2) * N - 1) 0 0 0 0 (2 * t)).sign) ∧ hsN = [jzS_251, (101, [], [1, 0, 0, 0, 0, 2 * t]), jgh, jgh, jgh, jgh, jgh, (130, [], [17, 18, 19, 20, 21, 22]), jgh, jgh, jgh, jgh, jgh, jgh, jgh, jgh, jgh, (100, [], (jenc (jlg 0))), (100, [], (jenc (jlg 1))), (100, [], (jenc (jlg 2))), (100, [], (jenc (jlg 3))), (100, [], (jenc (jlg 4))), (100, [], (jenc (jlg 5)))] ++ []) := by
  refine jT_xbipush (k := 6) (pcN := 2) jIS_212_0 (by decide) rfl ?_
  refine jT_adv 1 (pcN := 4) (LN := [(0, (4, 0)), (1, (4, 1)), (2, (1, 2 * N + 2))]) (stN := [(4, 23)]) (hsN := [jzS_251, (101, [], [1, 0, 0, 0, 0, 2 * t]), jgh, jgh, jgh, jgh, jgh, (130, [], [17, 18, 19, 20, 21, 22]), jgh, jgh, jgh, jgh, jgh, jgh, jgh, jgh, jgh, (100, [], (jenc (jlg 0))), (100, [], (jenc (jlg 1))), (100, [], (jenc (jlg 2))), (100, [], (jenc (jlg 3))), (100, [], (jenc (jlg 4))), (100, [], (jenc (jlg 5))), (101, [], [0, 0, 0, 0, 0, 0])]) (c1 := 1) (s1 := 6) (c2 := 19) (s2 := 1064) (by exact rfl) ?_ (by omega) (by omega)
  refine jT_xastore (v := (4, 23)) (LN := [(4, (4, 23)), (0, (4, 0)), (1, (4, 1)), (2, (1, 2 * N + 2))]) (pcN := 6) jIS_212_4 rfl rfl rfl rfl ?_
  refine jT_xaload_n (v := (4, 1)) (pcN := 7) jIS_212_6 rfl rfl rfl ?_
  refine jT_xiconst (k := 0) (pcN := 8) jIS_212_7 rfl ?_
  refine jT_xaload (v := (4, 23)) (pcN := 10) jIS_212_8 rfl rfl rfl ?_
  refine jT_xiconst (k := 0) (pcN := 11) jIS_212_10 rfl ?_
  refine jT_xbipush (k := 6) (pcN := 13) jIS_212_11 (by decide) rfl ?_
  refine jT_adv 1 (pcN := 16) (LN := [(4, (4, 23)), (0, (4, 0)), (1, (4, 1)), (2, (1, 2 * N + 2))]) (stN := []) (hsN := [jzS_251, (101, [], [1, 0, 0, 0, 0, 2 * t]), jgh, jgh, jgh, jgh, jgh, (130, [], [17, 18, 19, 20, 21, 22]), jgh, jgh, jgh, jgh, jgh, jgh, jgh, jgh, jgh, (100, [], (jenc (jlg 0))), (100, [], (jenc (jlg 1))), (100, [], (jenc (jlg 2))), (100, [], (jenc (jlg 3))), (100, [], (jenc (jlg 4))), (100, [], (jenc (jlg 5))), (101, [], [1, 0, 0, 0, 0, 2 * t])]) (c1 := 0) (s1 := 0) (c2 := 19) (s2 := 1064) (by exact rfl) ?_ (by omega) (by omega)
  refine jT_xaload (v := (4, 23)) (pcN := 18) jIS_212_16 rfl rfl rfl ?_
  refine jT_xiconst (k := 0) (pcN := 19) jIS_212_18 rfl ?_
  refine jT_adv 1 (pcN := 20) (LN := [(4, (4, 23)), (0, (4, 0)), (1, (4, 1)), (2, (1, 2 * N + 2))]) (stN := [(0, 0), (4, 23), (0, 0), (4, 23)]) (hsN := [jzS_251, (101, [], [1, 0, 0, 0, 0, 2 * t]), jgh, jgh, jgh, jgh, jgh, (130, [], [17, 18, 19, 20, 21, 22]), jgh, jgh, jgh, jgh, jgh, jgh, jgh, jgh, jgh, (100, [], (jenc (jlg 0))), (100, [], (jenc (jlg 1))), (100, [], (jenc (jlg 2))), (100, [], (jenc (jlg 3))), (100, [], (jenc (jlg 4))), (100, [], (jenc (jlg 5))), (101, [], [1, 0, 0, 0, 0, 2 * t])]) (c1 := 0) (s1 := 0) (c2 := 19) (s2 := 1064) (by exact rfl) ?_ (by omega) (by omega)
  refine jT_lald (x := 1) (a := 23) (j := 0) (fs := []) (X := [1, 0, 0, 0, 0, 2 * t]) jIS_212_20 rfl rfl rfl rfl ?_
  refine jT_eq (LN := [(4, (4, 23)), (0, (4, 0)), (1, (4, 1)), (2, (1, 2 * N + 2))]) (stN := [(1, 1), (0, 0), (4, 23)]) (hsN := [jzS_251, (101, [], [1, 0, 0, 0, 0, 2 * t]), jgh, jgh, jgh, jgh, jgh, (130, [], [17, 18, 19, 20, 21, 22]), jgh, jgh, jgh, jgh, jgh, jgh, jgh, jgh, jgh, (100, [], (jenc (jlg 0))), (100, [], (jenc (jlg 1))), (100, [], (jenc (jlg 2))), (100, [], (jenc (jlg 3))), (100, [], (jenc (jlg 4))), (100, [], (jenc (jlg 5))), (101, [], [1, 0, 0, 0, 0, 2 * t])]) rfl rfl rfl ?_
  refine jT_xlload_n (v := (1, 2 * N + 2)) (pcN := 22) jIS_212_21 rfl rfl rfl ?_
  refine jT_xlsub (x := 1) (y := 2 * N + 2) (z := (-2) * N - 1) (pcN := 23) jIS_212_22 rfl (by omega) rfl ?_
  refine jT_adv 1 (pcN := 24) (LN := [(4, (4, 23)), (0, (4, 0)), (1, (4, 1)), (2, (1, 2 * N + 2))]) (stN := []) (hsN := [jzS_251, (101, [], [1, 0, 0, 0, 0, 2 * t]), jgh, jgh, jgh, jgh, jgh, (130, [], [17, 18, 19, 20, 21, 22]), jgh, jgh, jgh, jgh, jgh, jgh, jgh, jgh, jgh, (100, [], (jenc (jlg 0))), (100, [], (jenc (jlg 1))), (100, [], (jenc (jlg 2))), (100, [], (jenc (jlg 3))), (100, [], (jenc (jlg 4))), (100, [], (jenc (jlg 5))), (101, [], [(-2) * N - 1, 0, 0, 0, 0, 2 * t])]) (c1 := 0) (s1 := 0) (c2 := 19) (s2 := 1064) (by exact rfl) ?_ (by omega) (by omega)
  refine jT_xaload_n (v := (4, 0)) (pcN := 25) jIS_212_24 rfl rfl rfl ?_
  refine jT_xaload (v := (4, 23)) (pcN := 27) jIS_212_25 rfl rfl rfl ?_
  refine jT_callA [0, 23, 2, 3, 4, 5, 6, 7, 8, 9, 10, 11, 12, 13, 14, 15, 16, 17, 18, 19, 20, 21, 22] (y := 213) (pcN := 30) (dC := 3) (bc1 := 19) (bc2 := 1064) (c1 := 0) (c2 := 0) (as := [(4, 0), (4, 23)]) (asC := [(4, 0), (4, 1)]) (LN := [(4, (4, 23)), (0, (4, 0)), (1, (4, 1)), (2, (1, 2 * N + 2))]) (stN := []) (hsC := [jzS_251, (101, [], [(-2) * N - 1, 0, 0, 0, 0, 2 * t]), jgh, jgh, jgh, jgh, jgh, (130, [], [17, 18, 19, 20, 21, 22]), jgh, jgh, jgh, jgh, jgh, jgh, jgh, jgh, jgh, (100, [], (jenc (jlg 0))), (100, [], (jenc (jlg 1))), (100, [], (jenc (jlg 2))), (100, [], (jenc (jlg 3))), (100, [], (jenc (jlg 4))), (100, [], (jenc (jlg 5)))]) (ex := []) (v := (0, (jlz ((-2) * N - 1) 0 0 0 0 (2 * t)).sign)) (st2 := [(0, (jlz ((-2) * N - 1) 0 0 0 0 (2 * t)).sign)]) (hs2 := [jzS_251, (101, [], [1, 0, 0, 0, 0, 2 * t]), jgh, jgh, jgh, jgh, jgh, (130, [], [17, 18, 19, 20, 21, 22]), jgh, jgh, jgh, jgh, jgh, jgh, jgh, jgh, jgh, (100, [], (jenc (jlg 0))), (100, [], (jenc (jlg 1))), (100, [], (jenc (jlg 2))), (100, [], (jenc (jlg 3))), (100, [], (jenc (jlg 4))), (100, [], (jenc (jlg 5))), (101, [], [(-2) * N - 1, 0, 0, 0, 0, 2 * t])]) (jSl_sg_157 (d := 0) (e0 := (-2) * N - 1) (e1 := 0) (e2 := 0) (e3 := 0) (e4 := 0) (e5 := 2 * t) (by omega) (by omega) (by omega) (by omega) (by omega) (by omega)) (by rfl) (by rfl) (by rfl) (by rfl) ⟨rfl, rfl, rfl, rfl, rfl, rfl, rfl, rfl, rfl, rfl, rfl, rfl, rfl, rfl, rfl, rfl, rfl, rfl, rfl, rfl, rfl, rfl, rfl, trivial⟩ (by rfl) (by rfl) (by omega) (by show 23 ≤ 24; omega) (by omega) (by omega) rfl rfl ?_
  have hb_q1 := jsgn_b (jlz ((-2) * N - 1) 0 0 0 0 (2 * t))
  generalize hq_q1 : (jlz ((-2) * N - 1) 0 0 0 0 (2 * t)).sign = q1 at hb_q1 g_0 ⊢
  refine jT_loc (LN := [(0, (4, 0))]) (by show List.Nodup [0]; decide) (by intro q hq; simp only [List.mem_cons, List.not_mem_nil, or_false] at hq; rcases hq with rfl <;> rfl) ?_
  refine jT_drop 23 (hs0 := [jzS_251, (101, [], [1, 0, 0, 0, 0, 2 * t]), jgh, jgh, jgh, jgh, jgh, (130, [], [17, 18, 19, 20, 21, 22]), jgh, jgh, jgh, jgh, jgh, jgh, jgh, jgh, jgh, (100, [], (jenc (jlg 0))), (100, [], (jenc (jlg 1))), (100, [], (jenc (jlg 2))), (100, [], (jenc (jlg 3))), (100, [], (jenc (jlg 4))), (100, [], (jenc (jlg 5)))]) (ex := [(101, [], [(-2) * N - 1, 0, 0, 0, 0, 2 * t])]) rfl rfl rfl (by decide) ?_
  subst hq_q1
  exact jT_ret rfl (by decide) (by show 23 ≤ 23; omega) (by omega) (by omega) ⟨rfl, rfl, rfl⟩
theorem jS_212_229 {xs : List Int} {d : Nat} {N t : Int} (h_N : (-1099511627776) ≤ N ∧ N ≤ 1099511627776) (h_t : 1 ≤ t ∧ t ≤ 60) : jT xs (d + 4) 212 23 0 [(0, (4, 0)), (1, (4, 1)), (2, (1, 2 * N))] [] [jzS_251, (101, [], [1, 0, 0, 0, 0, 2 * t]), jgh, jgh, jgh, jgh, jgh, (130, [], [17, 18, 19, 20, 21, 22]), jgh, jgh, jgh, jgh, jgh, jgh, jgh, jgh, jgh, (100, [], (jenc (jlg 0))), (100, [], (jenc (jlg 1))), (100, [], (jenc (jlg 2))), (100, [], (jenc (jlg 3))), (100, [], (jenc (jlg 4))), (100, [], (jenc (jlg 5)))] 20 1070 (fun k v hsN => k = 0 ∧ v = (0, (jlz ((-2) * N + 1) 0 0 0 0 (2 * t)).sign) ∧ hsN = [jzS_251, (101, [], [1, 0, 0, 0, 0, 2 * t]), jgh, jgh, jgh, jgh, jgh, (130, [], [17, 18, 19, 20, 21, 22]), jgh, jgh, jgh, jgh, jgh, jgh, jgh, jgh, jgh, (100, [], (jenc (jlg 0))), (100, [], (jenc (jlg 1))), (100, [], (jenc (jlg 2))), (100, [], (jenc (jlg 3))), (100, [], (jenc (jlg 4))), (100, [], (jenc (jlg 5)))] ++ []) := by
  refine jT_xbipush (k := 6) (pcN := 2) jIS_212_0 (by decide) rfl ?_
  refine jT_adv 1 (pcN := 4) (LN := [(0, (4, 0)), (1, (4, 1)), (2, (1, 2 * N))]) (stN := [(4, 23)]) (hsN := [jzS_251, (101, [], [1, 0, 0, 0, 0, 2 * t]), jgh, jgh, jgh, jgh, jgh, (130, [], [17, 18, 19, 20, 21, 22]), jgh, jgh, jgh, jgh, jgh, jgh, jgh, jgh, jgh, (100, [], (jenc (jlg 0))), (100, [], (jenc (jlg 1))), (100, [], (jenc (jlg 2))), (100, [], (jenc (jlg 3))), (100, [], (jenc (jlg 4))), (100, [], (jenc (jlg 5))), (101, [], [0, 0, 0, 0, 0, 0])]) (c1 := 1) (s1 := 6) (c2 := 19) (s2 := 1064) (by exact rfl) ?_ (by omega) (by omega)
  refine jT_xastore (v := (4, 23)) (LN := [(4, (4, 23)), (0, (4, 0)), (1, (4, 1)), (2, (1, 2 * N))]) (pcN := 6) jIS_212_4 rfl rfl rfl rfl ?_
  refine jT_xaload_n (v := (4, 1)) (pcN := 7) jIS_212_6 rfl rfl rfl ?_
  refine jT_xiconst (k := 0) (pcN := 8) jIS_212_7 rfl ?_
  refine jT_xaload (v := (4, 23)) (pcN := 10) jIS_212_8 rfl rfl rfl ?_
  refine jT_xiconst (k := 0) (pcN := 11) jIS_212_10 rfl ?_
  refine jT_xbipush (k := 6) (pcN := 13) jIS_212_11 (by decide) rfl ?_
  refine jT_adv 1 (pcN := 16) (LN := [(4, (4, 23)), (0, (4, 0)), (1, (4, 1)), (2, (1, 2 * N))]) (stN := []) (hsN := [jzS_251, (101, [], [1, 0, 0, 0, 0, 2 * t]), jgh, jgh, jgh, jgh, jgh, (130, [], [17, 18, 19, 20, 21, 22]), jgh, jgh, jgh, jgh, jgh, jgh, jgh, jgh, jgh, (100, [], (jenc (jlg 0))), (100, [], (jenc (jlg 1))), (100, [], (jenc (jlg 2))), (100, [], (jenc (jlg 3))), (100, [], (jenc (jlg 4))), (100, [], (jenc (jlg 5))), (101, [], [1, 0, 0, 0, 0, 2 * t])]) (c1 := 0) (s1 := 0) (c2 := 19) (s2 := 1064) (by exact rfl) ?_ (by omega) (by omega)
  refine jT_xaload (v := (4, 23)) (pcN := 18) jIS_212_16 rfl rfl rfl ?_
  refine jT_xiconst (k := 0) (pcN := 19) jIS_212_18 rfl ?_
  refine jT_adv 1 (pcN := 20) (LN := [(4, (4, 23)), (0, (4, 0)), (1, (4, 1)), (2, (1, 2 * N))]) (stN := [(0, 0), (4, 23), (0, 0), (4, 23)]) (hsN := [jzS_251, (101, [], [1, 0, 0, 0, 0, 2 * t]), jgh, jgh, jgh, jgh, jgh, (130, [], [17, 18, 19, 20, 21, 22]), jgh, jgh, jgh, jgh, jgh, jgh, jgh, jgh, jgh, (100, [], (jenc (jlg 0))), (100, [], (jenc (jlg 1))), (100, [], (jenc (jlg 2))), (100, [], (jenc (jlg 3))), (100, [], (jenc (jlg 4))), (100, [], (jenc (jlg 5))), (101, [], [1, 0, 0, 0, 0, 2 * t])]) (c1 := 0) (s1 := 0) (c2 := 19) (s2 := 1064) (by exact rfl) ?_ (by omega) (by omega)
  refine jT_lald (x := 1) (a := 23) (j := 0) (fs := []) (X := [1, 0, 0, 0, 0, 2 * t]) jIS_212_20 rfl rfl rfl rfl ?_
  refine jT_eq (LN := [(4, (4, 23)), (0, (4, 0)), (1, (4, 1)), (2, (1, 2 * N))]) (stN := [(1, 1), (0, 0), (4, 23)]) (hsN := [jzS_251, (101, [], [1, 0, 0, 0, 0, 2 * t]), jgh, jgh, jgh, jgh, jgh, (130, [], [17, 18, 19, 20, 21, 22]), jgh, jgh, jgh, jgh, jgh, jgh, jgh, jgh, jgh, (100, [], (jenc (jlg 0))), (100, [], (jenc (jlg 1))), (100, [], (jenc (jlg 2))), (100, [], (jenc (jlg 3))), (100, [], (jenc (jlg 4))), (100, [], (jenc (jlg 5))), (101, [], [1, 0, 0, 0, 0, 2 * t])]) rfl rfl rfl ?_
  refine jT_xlload_n (v := (1, 2 * N)) (pcN := 22) jIS_212_21 rfl rfl rfl ?_
  refine jT_xlsub (x := 1) (y := 2 * N) (z := (-2) * N + 1) (pcN := 23) jIS_212_22 rfl (by omega) rfl ?_
  refine jT_adv 1 (pcN := 24) (LN := [(4, (4, 23)), (0, (4, 0)), (1, (4, 1)), (2, (1, 2 * N))]) (stN := []) (hsN := [jzS_251, (101, [], [1, 0, 0, 0, 0, 2 * t]), jgh, jgh, jgh, jgh, jgh, (130, [], [17, 18, 19, 20, 21, 22]), jgh, jgh, jgh, jgh, jgh, jgh, jgh, jgh, jgh, (100, [], (jenc (jlg 0))), (100, [], (jenc (jlg 1))), (100, [], (jenc (jlg 2))), (100, [], (jenc (jlg 3))), (100, [], (jenc (jlg 4))), (100, [], (jenc (jlg 5))), (101, [], [(-2) * N + 1, 0, 0, 0, 0, 2 * t])]) (c1 := 0) (s1 := 0) (c2 := 19) (s2 := 1064) (by exact rfl) ?_ (by omega) (by omega)
  refine jT_xaload_n (v := (4, 0)) (pcN := 25) jIS_212_24 rfl rfl rfl ?_
  refine jT_xaload (v := (4, 23)) (pcN := 27) jIS_212_25 rfl rfl rfl ?_
  refine jT_callA [0, 23, 2, 3, 4, 5, 6, 7, 8, 9, 10, 11, 12, 13, 14, 15, 16, 17, 18, 19, 20, 21, 22] (y := 213) (pcN := 30) (dC := 3) (bc1 := 19) (bc2 := 1064) (c1 := 0) (c2 := 0) (as := [(4, 0), (4, 23)]) (asC := [(4, 0), (4, 1)]) (LN := [(4, (4, 23)), (0, (4, 0)), (1, (4, 1)), (2, (1, 2 * N))]) (stN := []) (hsC := [jzS_251, (101, [], [(-2) * N + 1, 0, 0, 0, 0, 2 * t]), jgh, jgh, jgh, jgh, jgh, (130, [], [17, 18, 19, 20, 21, 22]), jgh, jgh, jgh, jgh, jgh, jgh, jgh, jgh, jgh, (100, [], (jenc (jlg 0))), (100, [], (jenc (jlg 1))), (100, [], (jenc (jlg 2))), (100, [], (jenc (jlg 3))), (100, [], (jenc (jlg 4))), (100, [], (jenc (jlg 5)))]) (ex := []) (v := (0, (jlz ((-2) * N + 1) 0 0 0 0 (2 * t)).sign)) (st2 := [(0, (jlz ((-2) * N + 1) 0 0 0 0 (2 * t)).sign)]) (hs2 := [jzS_251, (101, [], [1, 0, 0, 0, 0, 2 * t]), jgh, jgh, jgh, jgh, jgh, (130, [], [17, 18, 19, 20, 21, 22]), jgh, jgh, jgh, jgh, jgh, jgh, jgh, jgh, jgh, (100, [], (jenc (jlg 0))), (100, [], (jenc (jlg 1))), (100, [], (jenc (jlg 2))), (100, [], (jenc (jlg 3))), (100, [], (jenc (jlg 4))), (100, [], (jenc (jlg 5))), (101, [], [(-2) * N + 1, 0, 0, 0, 0, 2 * t])]) (jSl_sg_157 (d := 0) (e0 := (-2) * N + 1) (e1 := 0) (e2 := 0) (e3 := 0) (e4 := 0) (e5 := 2 * t) (by omega) (by omega) (by omega) (by omega) (by omega) (by omega)) (by rfl) (by rfl) (by rfl) (by rfl) ⟨rfl, rfl, rfl, rfl, rfl, rfl, rfl, rfl, rfl, rfl, rfl, rfl, rfl, rfl, rfl, rfl, rfl, rfl, rfl, rfl, rfl, rfl, rfl, trivial⟩ (by rfl) (by rfl) (by omega) (by show 23 ≤ 24; omega) (by omega) (by omega) rfl rfl ?_
  have hb_q1 := jsgn_b (jlz ((-2) * N + 1) 0 0 0 0 (2 * t))
  generalize hq_q1 : (jlz ((-2) * N + 1) 0 0 0 0 (2 * t)).sign = q1 at hb_q1 ⊢
  refine jT_loc (LN := [(0, (4, 0))]) (by show List.Nodup [0]; decide) (by intro q hq; simp only [List.mem_cons, List.not_mem_nil, or_false] at hq; rcases hq with rfl <;> rfl) ?_
  refine jT_drop 23 (hs0 := [jzS_251, (101, [], [1, 0, 0, 0, 0, 2 * t]), jgh, jgh, jgh, jgh, jgh, (130, [], [17, 18, 19, 20, 21, 22]), jgh, jgh, jgh, jgh, jgh, jgh, jgh, jgh, jgh, (100, [], (jenc (jlg 0))), (100, [], (jenc (jlg 1))), (100, [], (jenc (jlg 2))), (100, [], (jenc (jlg 3))), (100, [], (jenc (jlg 4))), (100, [], (jenc (jlg 5)))]) (ex := [(101, [], [(-2) * N + 1, 0, 0, 0, 0, 2 * t])]) rfl rfl rfl (by decide) ?_
  subst hq_q1
  exact jT_ret rfl (by decide) (by show 23 ≤ 23; omega) (by omega) (by omega) ⟨rfl, rfl, rfl⟩
theorem jS_212_230 {xs : List Int} {d : Nat} {N t : Int} (h_N : (-1099511627776) ≤ N ∧ N ≤ 1099511627776) (h_t : 1 ≤ t ∧ t ≤ 60) (g_0 : (jlz ((-2) * N - 1) 0 0 0 0 (2 * t)).sign < 0) (g_1 : 0 ≤ (jlz ((-2) * N + 1) 0 0 0 0 (2 * t)).sign) : jT xs (d + 4) 212 23 0 [(0, (4, 0)), (1, (4, 1)), (2, (1, 2 * N + 2))] [] [jzS_251, (101, [], [1, 0, 0, 0, 0, 2 * t]), jgh, jgh, jgh, jgh, jgh, (130, [], [17, 18, 19, 20, 21, 22]), jgh, jgh, jgh, jgh, jgh, jgh, jgh, jgh, jgh, (100, [], (jenc (jlg 0))), (100, [], (jenc (jlg 1))), (100, [], (jenc (jlg 2))), (100, [], (jenc (jlg 3))), (100, [], (jenc (jlg 4))), (100, [], (jenc (jlg 5)))] 20 1070 (fun k v hsN => k = 0 ∧ v = (0, (jlz ((-2) * N - 1) 0 0 0 0 (2 * t)).sign) ∧ hsN = [jzS_251, (101, [], [1, 0, 0, 0, 0, 2 * t]), jgh, jgh, jgh, jgh, jgh, (130, [], [17, 18, 19, 20, 21, 22]), jgh, jgh, jgh, jgh, jgh, jgh, jgh, jgh, jgh, (100, [], (jenc (jlg 0))), (100, [], (jenc (jlg 1))), (100, [], (jenc (jlg 2))), (100, [], (jenc (jlg 3))), (100, [], (jenc (jlg 4))), (100, [], (jenc (jlg 5)))] ++ []) := by
  refine jT_xbipush (k := 6) (pcN := 2) jIS_212_0 (by decide) rfl ?_
  refine jT_adv 1 (pcN := 4) (LN := [(0, (4, 0)), (1, (4, 1)), (2, (1, 2 * N + 2))]) (stN := [(4, 23)]) (hsN := [jzS_251, (101, [], [1, 0, 0, 0, 0, 2 * t]), jgh, jgh, jgh, jgh, jgh, (130, [], [17, 18, 19, 20, 21, 22]), jgh, jgh, jgh, jgh, jgh, jgh, jgh, jgh, jgh, (100, [], (jenc (jlg 0))), (100, [], (jenc (jlg 1))), (100, [], (jenc (jlg 2))), (100, [], (jenc (jlg 3))), (100, [], (jenc (jlg 4))), (100, [], (jenc (jlg 5))), (101, [], [0, 0, 0, 0, 0, 0])]) (c1 := 1) (s1 := 6) (c2 := 19) (s2 := 1064) (by exact rfl) ?_ (by omega) (by omega)
  refine jT_xastore (v := (4, 23)) (LN := [(4, (4, 23)), (0, (4, 0)), (1, (4, 1)), (2, (1, 2 * N + 2))]) (pcN := 6) jIS_212_4 rfl rfl rfl rfl ?_
  refine jT_xaload_n (v := (4, 1)) (pcN := 7) jIS_212_6 rfl rfl rfl ?_
  refine jT_xiconst (k := 0) (pcN := 8) jIS_212_7 rfl ?_
  refine jT_xaload (v := (4, 23)) (pcN := 10) jIS_212_8 rfl rfl rfl ?_
  refine jT_xiconst (k := 0) (pcN := 11) jIS_212_10 rfl ?_
  refine jT_xbipush (k := 6) (pcN := 13) jIS_212_11 (by decide) rfl ?_
  refine jT_adv 1 (pcN := 16) (LN := [(4, (4, 23)), (0, (4, 0)), (1, (4, 1)), (2, (1, 2 * N + 2))]) (stN := []) (hsN := [jzS_251, (101, [], [1, 0, 0, 0, 0, 2 * t]), jgh, jgh, jgh, jgh, jgh, (130, [], [17, 18, 19, 20, 21, 22]), jgh, jgh, jgh, jgh, jgh, jgh, jgh, jgh, jgh, (100, [], (jenc (jlg 0))), (100, [], (jenc (jlg 1))), (100, [], (jenc (jlg 2))), (100, [], (jenc (jlg 3))), (100, [], (jenc (jlg 4))), (100, [], (jenc (jlg 5))), (101, [], [1, 0, 0, 0, 0, 2 * t])]) (c1 := 0) (s1 := 0) (c2 := 19) (s2 := 1064) (by exact rfl) ?_ (by omega) (by omega)
  refine jT_xaload (v := (4, 23)) (pcN := 18) jIS_212_16 rfl rfl rfl ?_
  refine jT_xiconst (k := 0) (pcN := 19) jIS_212_18 rfl ?_
  refine jT_adv 1 (pcN := 20) (LN := [(4, (4, 23)), (0, (4, 0)), (1, (4, 1)), (2, (1, 2 * N + 2))]) (stN := [(0, 0), (4, 23), (0, 0), (4, 23)]) (hsN := [jzS_251, (101, [], [1, 0, 0, 0, 0, 2 * t]), jgh, jgh, jgh, jgh, jgh, (130, [], [17, 18, 19, 20, 21, 22]), jgh, jgh, jgh, jgh, jgh, jgh, jgh, jgh, jgh, (100, [], (jenc (jlg 0))), (100, [], (jenc (jlg 1))), (100, [], (jenc (jlg 2))), (100, [], (jenc (jlg 3))), (100, [], (jenc (jlg 4))), (100, [], (jenc (jlg 5))), (101, [], [1, 0, 0, 0, 0, 2 * t])]) (c1 := 0) (s1 := 0) (c2 := 19) (s2 := 1064) (by exact rfl) ?_ (by omega) (by omega)
  refine jT_lald (x := 1) (a := 23) (j := 0) (fs := []) (X := [1, 0, 0, 0, 0, 2 * t]) jIS_212_20 rfl rfl rfl rfl ?_
  refine jT_eq (LN := [(4, (4, 23)), (0, (4, 0)), (1, (4, 1)), (2, (1, 2 * N + 2))]) (stN := [(1, 1), (0, 0), (4, 23)]) (hsN := [jzS_251, (101, [], [1, 0, 0, 0, 0, 2 * t]), jgh, jgh, jgh, jgh, jgh, (130, [], [17, 18, 19, 20, 21, 22]), jgh, jgh, jgh, jgh, jgh, jgh, jgh, jgh, jgh, (100, [], (jenc (jlg 0))), (100, [], (jenc (jlg 1))), (100, [], (jenc (jlg 2))), (100, [], (jenc (jlg 3))), (100, [], (jenc (jlg 4))), (100, [], (jenc (jlg 5))), (101, [], [1, 0, 0, 0, 0, 2 * t])]) rfl rfl rfl ?_
  refine jT_xlload_n (v := (1, 2 * N + 2)) (pcN := 22) jIS_212_21 rfl rfl rfl ?_
  refine jT_xlsub (x := 1) (y := 2 * N + 2) (z := (-2) * N - 1) (pcN := 23) jIS_212_22 rfl (by omega) rfl ?_
  refine jT_adv 1 (pcN := 24) (LN := [(4, (4, 23)), (0, (4, 0)), (1, (4, 1)), (2, (1, 2 * N + 2))]) (stN := []) (hsN := [jzS_251, (101, [], [1, 0, 0, 0, 0, 2 * t]), jgh, jgh, jgh, jgh, jgh, (130, [], [17, 18, 19, 20, 21, 22]), jgh, jgh, jgh, jgh, jgh, jgh, jgh, jgh, jgh, (100, [], (jenc (jlg 0))), (100, [], (jenc (jlg 1))), (100, [], (jenc (jlg 2))), (100, [], (jenc (jlg 3))), (100, [], (jenc (jlg 4))), (100, [], (jenc (jlg 5))), (101, [], [(-2) * N - 1, 0, 0, 0, 0, 2 * t])]) (c1 := 0) (s1 := 0) (c2 := 19) (s2 := 1064) (by exact rfl) ?_ (by omega) (by omega)
  refine jT_xaload_n (v := (4, 0)) (pcN := 25) jIS_212_24 rfl rfl rfl ?_
  refine jT_xaload (v := (4, 23)) (pcN := 27) jIS_212_25 rfl rfl rfl ?_
  refine jT_callA [0, 23, 2, 3, 4, 5, 6, 7, 8, 9, 10, 11, 12, 13, 14, 15, 16, 17, 18, 19, 20, 21, 22] (y := 213) (pcN := 30) (dC := 3) (bc1 := 19) (bc2 := 1064) (c1 := 0) (c2 := 0) (as := [(4, 0), (4, 23)]) (asC := [(4, 0), (4, 1)]) (LN := [(4, (4, 23)), (0, (4, 0)), (1, (4, 1)), (2, (1, 2 * N + 2))]) (stN := []) (hsC := [jzS_251, (101, [], [(-2) * N - 1, 0, 0, 0, 0, 2 * t]), jgh, jgh, jgh, jgh, jgh, (130, [], [17, 18, 19, 20, 21, 22]), jgh, jgh, jgh, jgh, jgh, jgh, jgh, jgh, jgh, (100, [], (jenc (jlg 0))), (100, [], (jenc (jlg 1))), (100, [], (jenc (jlg 2))), (100, [], (jenc (jlg 3))), (100, [], (jenc (jlg 4))), (100, [], (jenc (jlg 5)))]) (ex := []) (v := (0, (jlz ((-2) * N - 1) 0 0 0 0 (2 * t)).sign)) (st2 := [(0, (jlz ((-2) * N - 1) 0 0 0 0 (2 * t)).sign)]) (hs2 := [jzS_251, (101, [], [1, 0, 0, 0, 0, 2 * t]), jgh, jgh, jgh, jgh, jgh, (130, [], [17, 18, 19, 20, 21, 22]), jgh, jgh, jgh, jgh, jgh, jgh, jgh, jgh, jgh, (100, [], (jenc (jlg 0))), (100, [], (jenc (jlg 1))), (100, [], (jenc (jlg 2))), (100, [], (jenc (jlg 3))), (100, [], (jenc (jlg 4))), (100, [], (jenc (jlg 5))), (101, [], [(-2) * N - 1, 0, 0, 0, 0, 2 * t])]) (jSl_sg_157 (d := 0) (e0 := (-2) * N - 1) (e1 := 0) (e2 := 0) (e3 := 0) (e4 := 0) (e5 := 2 * t) (by omega) (by omega) (by omega) (by omega) (by omega) (by omega)) (by rfl) (by rfl) (by rfl) (by rfl) ⟨rfl, rfl, rfl, rfl, rfl, rfl, rfl, rfl, rfl, rfl, rfl, rfl, rfl, rfl, rfl, rfl, rfl, rfl, rfl, rfl, rfl, rfl, rfl, trivial⟩ (by rfl) (by rfl) (by omega) (by show 23 ≤ 24; omega) (by omega) (by omega) rfl rfl ?_
  have hb_q1 := jsgn_b (jlz ((-2) * N - 1) 0 0 0 0 (2 * t))
  generalize hq_q1 : (jlz ((-2) * N - 1) 0 0 0 0 (2 * t)).sign = q1 at hb_q1 g_0 ⊢
  refine jT_loc (LN := [(0, (4, 0))]) (by show List.Nodup [0]; decide) (by intro q hq; simp only [List.mem_cons, List.not_mem_nil, or_false] at hq; rcases hq with rfl <;> rfl) ?_
  refine jT_drop 23 (hs0 := [jzS_251, (101, [], [1, 0, 0, 0, 0, 2 * t]), jgh, jgh, jgh, jgh, jgh, (130, [], [17, 18, 19, 20, 21, 22]), jgh, jgh, jgh, jgh, jgh, jgh, jgh, jgh, jgh, (100, [], (jenc (jlg 0))), (100, [], (jenc (jlg 1))), (100, [], (jenc (jlg 2))), (100, [], (jenc (jlg 3))), (100, [], (jenc (jlg 4))), (100, [], (jenc (jlg 5)))]) (ex := [(101, [], [(-2) * N - 1, 0, 0, 0, 0, 2 * t])]) rfl rfl rfl (by decide) ?_
  subst hq_q1
  exact jT_ret rfl (by decide) (by show 23 ≤ 23; omega) (by omega) (by omega) ⟨rfl, rfl, rfl⟩
theorem jS_212_231 {xs : List Int} {d : Nat} {N t : Int} (h_N : (-1099511627776) ≤ N ∧ N ≤ 1099511627776) (h_t : 1 ≤ t ∧ t ≤ 60) (g_0 : 0 ≤ (jlz ((-2) * N + 1) 0 0 0 0 (2 * t)).sign) : jT xs (d + 4) 212 23 0 [(0, (4, 0)), (1, (4, 1)), (2, (1, 2 * N))] [] [jzS_251, (101, [], [1, 0, 0, 0, 0, 2 * t]), jgh, jgh, jgh, jgh, jgh, (130, [], [17, 18, 19, 20, 21, 22]), jgh, jgh, jgh, jgh, jgh, jgh, jgh, jgh, jgh, (100, [], (jenc (jlg 0))), (100, [], (jenc (jlg 1))), (100, [], (jenc (jlg 2))), (100, [], (jenc (jlg 3))), (100, [], (jenc (jlg 4))), (100, [], (jenc (jlg 5)))] 20 1070 (fun k v hsN => k = 0 ∧ v = (0, (jlz ((-2) * N + 1) 0 0 0 0 (2 * t)).sign) ∧ hsN = [jzS_251, (101, [], [1, 0, 0, 0, 0, 2 * t]), jgh, jgh, jgh, jgh, jgh, (130, [], [17, 18, 19, 20, 21, 22]), jgh, jgh, jgh, jgh, jgh, jgh, jgh, jgh, jgh, (100, [], (jenc (jlg 0))), (100, [], (jenc (jlg 1))), (100, [], (jenc (jlg 2))), (100, [], (jenc (jlg 3))), (100, [], (jenc (jlg 4))), (100, [], (jenc (jlg 5)))] ++ []) := by
  refine jT_xbipush (k := 6) (pcN := 2) jIS_212_0 (by decide) rfl ?_
  refine jT_adv 1 (pcN := 4) (LN := [(0, (4, 0)), (1, (4, 1)), (2, (1, 2 * N))]) (stN := [(4, 23)]) (hsN := [jzS_251, (101, [], [1, 0, 0, 0, 0, 2 * t]), jgh, jgh, jgh, jgh, jgh, (130, [], [17, 18, 19, 20, 21, 22]), jgh, jgh, jgh, jgh, jgh, jgh, jgh, jgh, jgh, (100, [], (jenc (jlg 0))), (100, [], (jenc (jlg 1))), (100, [], (jenc (jlg 2))), (100, [], (jenc (jlg 3))), (100, [], (jenc (jlg 4))), (100, [], (jenc (jlg 5))), (101, [], [0, 0, 0, 0, 0, 0])]) (c1 := 1) (s1 := 6) (c2 := 19) (s2 := 1064) (by exact rfl) ?_ (by omega) (by omega)
  refine jT_xastore (v := (4, 23)) (LN := [(4, (4, 23)), (0, (4, 0)), (1, (4, 1)), (2, (1, 2 * N))]) (pcN := 6) jIS_212_4 rfl rfl rfl rfl ?_
  refine jT_xaload_n (v := (4, 1)) (pcN := 7) jIS_212_6 rfl rfl rfl ?_
  refine jT_xiconst (k := 0) (pcN := 8) jIS_212_7 rfl ?_
  refine jT_xaload (v := (4, 23)) (pcN := 10) jIS_212_8 rfl rfl rfl ?_
  refine jT_xiconst (k := 0) (pcN := 11) jIS_212_10 rfl ?_
  refine jT_xbipush (k := 6) (pcN := 13) jIS_212_11 (by decide) rfl ?_
  refine jT_adv 1 (pcN := 16) (LN := [(4, (4, 23)), (0, (4, 0)), (1, (4, 1)), (2, (1, 2 * N))]) (stN := []) (hsN := [jzS_251, (101, [], [1, 0, 0, 0, 0, 2 * t]), jgh, jgh, jgh, jgh, jgh, (130, [], [17, 18, 19, 20, 21, 22]), jgh, jgh, jgh, jgh, jgh, jgh, jgh, jgh, jgh, (100, [], (jenc (jlg 0))), (100, [], (jenc (jlg 1))), (100, [], (jenc (jlg 2))), (100, [], (jenc (jlg 3))), (100, [], (jenc (jlg 4))), (100, [], (jenc (jlg 5))), (101, [], [1, 0, 0, 0, 0, 2 * t])]) (c1 := 0) (s1 := 0) (c2 := 19) (s2 := 1064) (by exact rfl) ?_ (by omega) (by omega)
  refine jT_xaload (v := (4, 23)) (pcN := 18) jIS_212_16 rfl rfl rfl ?_
  refine jT_xiconst (k := 0) (pcN := 19) jIS_212_18 rfl ?_
  refine jT_adv 1 (pcN := 20) (LN := [(4, (4, 23)), (0, (4, 0)), (1, (4, 1)), (2, (1, 2 * N))]) (stN := [(0, 0), (4, 23), (0, 0), (4, 23)]) (hsN := [jzS_251, (101, [], [1, 0, 0, 0, 0, 2 * t]), jgh, jgh, jgh, jgh, jgh, (130, [], [17, 18, 19, 20, 21, 22]), jgh, jgh, jgh, jgh, jgh, jgh, jgh, jgh, jgh, (100, [], (jenc (jlg 0))), (100, [], (jenc (jlg 1))), (100, [], (jenc (jlg 2))), (100, [], (jenc (jlg 3))), (100, [], (jenc (jlg 4))), (100, [], (jenc (jlg 5))), (101, [], [1, 0, 0, 0, 0, 2 * t])]) (c1 := 0) (s1 := 0) (c2 := 19) (s2 := 1064) (by exact rfl) ?_ (by omega) (by omega)
  refine jT_lald (x := 1) (a := 23) (j := 0) (fs := []) (X := [1, 0, 0, 0, 0, 2 * t]) jIS_212_20 rfl rfl rfl rfl ?_
  refine jT_eq (LN := [(4, (4, 23)), (0, (4, 0)), (1, (4, 1)), (2, (1, 2 * N))]) (stN := [(1, 1), (0, 0), (4, 23)]) (hsN := [jzS_251, (101, [], [1, 0, 0, 0, 0, 2 * t]), jgh, jgh, jgh, jgh, jgh, (130, [], [17, 18, 19, 20, 21, 22]), jgh, jgh, jgh, jgh, jgh, jgh, jgh, jgh, jgh, (100, [], (jenc (jlg 0))), (100, [], (jenc (jlg 1))), (100, [], (jenc (jlg 2))), (100, [], (jenc (jlg 3))), (100, [], (jenc (jlg 4))), (100, [], (jenc (jlg 5))), (101, [], [1, 0, 0, 0, 0, 2 * t])]) rfl rfl rfl ?_
  refine jT_xlload_n (v := (1, 2 * N)) (pcN := 22) jIS_212_21 rfl rfl rfl ?_
  refine jT_xlsub (x := 1) (y := 2 * N) (z := (-2) * N + 1) (pcN := 23) jIS_212_22 rfl (by omega) rfl ?_
  refine jT_adv 1 (pcN := 24) (LN := [(4, (4, 23)), (0, (4, 0)), (1, (4, 1)), (2, (1, 2 * N))]) (stN := []) (hsN := [jzS_251, (101, [], [1, 0, 0, 0, 0, 2 * t]), jgh, jgh, jgh, jgh, jgh, (130, [], [17, 18, 19, 20, 21, 22]), jgh, jgh, jgh, jgh, jgh, jgh, jgh, jgh, jgh, (100, [], (jenc (jlg 0))), (100, [], (jenc (jlg 1))), (100, [], (jenc (jlg 2))), (100, [], (jenc (jlg 3))), (100, [], (jenc (jlg 4))), (100, [], (jenc (jlg 5))), (101, [], [(-2) * N + 1, 0, 0, 0, 0, 2 * t])]) (c1 := 0) (s1 := 0) (c2 := 19) (s2 := 1064) (by exact rfl) ?_ (by omega) (by omega)
  refine jT_xaload_n (v := (4, 0)) (pcN := 25) jIS_212_24 rfl rfl rfl ?_
  refine jT_xaload (v := (4, 23)) (pcN := 27) jIS_212_25 rfl rfl rfl ?_
  refine jT_callA [0, 23, 2, 3, 4, 5, 6, 7, 8, 9, 10, 11, 12, 13, 14, 15, 16, 17, 18, 19, 20, 21, 22] (y := 213) (pcN := 30) (dC := 3) (bc1 := 19) (bc2 := 1064) (c1 := 0) (c2 := 0) (as := [(4, 0), (4, 23)]) (asC := [(4, 0), (4, 1)]) (LN := [(4, (4, 23)), (0, (4, 0)), (1, (4, 1)), (2, (1, 2 * N))]) (stN := []) (hsC := [jzS_251, (101, [], [(-2) * N + 1, 0, 0, 0, 0, 2 * t]), jgh, jgh, jgh, jgh, jgh, (130, [], [17, 18, 19, 20, 21, 22]), jgh, jgh, jgh, jgh, jgh, jgh, jgh, jgh, jgh, (100, [], (jenc (jlg 0))), (100, [], (jenc (jlg 1))), (100, [], (jenc (jlg 2))), (100, [], (jenc (jlg 3))), (100, [], (jenc (jlg 4))), (100, [], (jenc (jlg 5)))]) (ex := []) (v := (0, (jlz ((-2) * N + 1) 0 0 0 0 (2 * t)).sign)) (st2 := [(0, (jlz ((-2) * N + 1) 0 0 0 0 (2 * t)).sign)]) (hs2 := [jzS_251, (101, [], [1, 0, 0, 0, 0, 2 * t]), jgh, jgh, jgh, jgh, jgh, (130, [], [17, 18, 19, 20, 21, 22]), jgh, jgh, jgh, jgh, jgh, jgh, jgh, jgh, jgh, (100, [], (jenc (jlg 0))), (100, [], (jenc (jlg 1))), (100, [], (jenc (jlg 2))), (100, [], (jenc (jlg 3))), (100, [], (jenc (jlg 4))), (100, [], (jenc (jlg 5))), (101, [], [(-2) * N + 1, 0, 0, 0, 0, 2 * t])]) (jSl_sg_157 (d := 0) (e0 := (-2) * N + 1) (e1 := 0) (e2 := 0) (e3 := 0) (e4 := 0) (e5 := 2 * t) (by omega) (by omega) (by omega) (by omega) (by omega) (by omega)) (by rfl) (by rfl) (by rfl) (by rfl) ⟨rfl, rfl, rfl, rfl, rfl, rfl, rfl, rfl, rfl, rfl, rfl, rfl, rfl, rfl, rfl, rfl, rfl, rfl, rfl, rfl, rfl, rfl, rfl, trivial⟩ (by rfl) (by rfl) (by omega) (by show 23 ≤ 24; omega) (by omega) (by omega) rfl rfl ?_
  have hb_q1 := jsgn_b (jlz ((-2) * N + 1) 0 0 0 0 (2 * t))
  generalize hq_q1 : (jlz ((-2) * N + 1) 0 0 0 0 (2 * t)).sign = q1 at hb_q1 g_0 ⊢
  refine jT_loc (LN := [(0, (4, 0))]) (by show List.Nodup [0]; decide) (by intro q hq; simp only [List.mem_cons, List.not_mem_nil, or_false] at hq; rcases hq with rfl <;> rfl) ?_
  refine jT_drop 23 (hs0 := [jzS_251, (101, [], [1, 0, 0, 0, 0, 2 * t]), jgh, jgh, jgh, jgh, jgh, (130, [], [17, 18, 19, 20, 21, 22]), jgh, jgh, jgh, jgh, jgh, jgh, jgh, jgh, jgh, (100, [], (jenc (jlg 0))), (100, [], (jenc (jlg 1))), (100, [], (jenc (jlg 2))), (100, [], (jenc (jlg 3))), (100, [], (jenc (jlg 4))), (100, [], (jenc (jlg 5)))]) (ex := [(101, [], [(-2) * N + 1, 0, 0, 0, 0, 2 * t])]) rfl rfl rfl (by decide) ?_
  subst hq_q1
  exact jT_ret rfl (by decide) (by show 23 ≤ 23; omega) (by omega) (by omega) ⟨rfl, rfl, rfl⟩
theorem jS_212_232 {xs : List Int} {d : Nat} {N t : Int} (h_N : (-1099511627776) ≤ N ∧ N ≤ 1099511627776) (h_t : 1 ≤ t ∧ t ≤ 60) (g_0 : 0 ≤ (jlz ((-2) * N + 1) 0 0 0 0 (2 * t)).sign) (g_1 : (jlz ((-2) * N - 1) 0 0 0 0 (2 * t)).sign < 0) : jT xs (d + 4) 212 23 0 [(0, (4, 0)), (1, (4, 1)), (2, (1, 2 * N))] [] [jzS_251, (101, [], [1, 0, 0, 0, 0, 2 * t]), jgh, jgh, jgh, jgh, jgh, (130, [], [17, 18, 19, 20, 21, 22]), jgh, jgh, jgh, jgh, jgh, jgh, jgh, jgh, jgh, (100, [], (jenc (jlg 0))), (100, [], (jenc (jlg 1))), (100, [], (jenc (jlg 2))), (100, [], (jenc (jlg 3))), (100, [], (jenc (jlg 4))), (100, [], (jenc (jlg 5)))] 20 1070 (fun k v hsN => k = 0 ∧ v = (0, (jlz ((-2) * N + 1) 0 0 0 0 (2 * t)).sign) ∧ hsN = [jzS_251, (101, [], [1, 0, 0, 0, 0, 2 * t]), jgh, jgh, jgh, jgh, jgh, (130, [], [17, 18, 19, 20, 21, 22]), jgh, jgh, jgh, jgh, jgh, jgh, jgh, jgh, jgh, (100, [], (jenc (jlg 0))), (100, [], (jenc (jlg 1))), (100, [], (jenc (jlg 2))), (100, [], (jenc (jlg 3))), (100, [], (jenc (jlg 4))), (100, [], (jenc (jlg 5)))] ++ []) := by
  refine jT_xbipush (k := 6) (pcN := 2) jIS_212_0 (by decide) rfl ?_
  refine jT_adv 1 (pcN := 4) (LN := [(0, (4, 0)), (1, (4, 1)), (2, (1, 2 * N))]) (stN := [(4, 23)]) (hsN := [jzS_251, (101, [], [1, 0, 0, 0, 0, 2 * t]), jgh, jgh, jgh, jgh, jgh, (130, [], [17, 18, 19, 20, 21, 22]), jgh, jgh, jgh, jgh, jgh, jgh, jgh, jgh, jgh, (100, [], (jenc (jlg 0))), (100, [], (jenc (jlg 1))), (100, [], (jenc (jlg 2))), (100, [], (jenc (jlg 3))), (100, [], (jenc (jlg 4))), (100, [], (jenc (jlg 5))), (101, [], [0, 0, 0, 0, 0, 0])]) (c1 := 1) (s1 := 6) (c2 := 19) (s2 := 1064) (by exact rfl) ?_ (by omega) (by omega)
  refine jT_xastore (v := (4, 23)) (LN := [(4, (4, 23)), (0, (4, 0)), (1, (4, 1)), (2, (1, 2 * N))]) (pcN := 6) jIS_212_4 rfl rfl rfl rfl ?_
  refine jT_xaload_n (v := (4, 1)) (pcN := 7) jIS_212_6 rfl rfl rfl ?_
  refine jT_xiconst (k := 0) (pcN := 8) jIS_212_7 rfl ?_
  refine jT_xaload (v := (4, 23)) (pcN := 10) jIS_212_8 rfl rfl rfl ?_
  refine jT_xiconst (k := 0) (pcN := 11) jIS_212_10 rfl ?_
  refine jT_xbipush (k := 6) (pcN := 13) jIS_212_11 (by decide) rfl ?_
  refine jT_adv 1 (pcN := 16) (LN := [(4, (4, 23)), (0, (4, 0)), (1, (4, 1)), (2, (1, 2 * N))]) (stN := []) (hsN := [jzS_251, (101, [], [1, 0, 0, 0, 0, 2 * t]), jgh, jgh, jgh, jgh, jgh, (130, [], [17, 18, 19, 20, 21, 22]), jgh, jgh, jgh, jgh, jgh, jgh, jgh, jgh, jgh, (100, [], (jenc (jlg 0))), (100, [], (jenc (jlg 1))), (100, [], (jenc (jlg 2))), (100, [], (jenc (jlg 3))), (100, [], (jenc (jlg 4))), (100, [], (jenc (jlg 5))), (101, [], [1, 0, 0, 0, 0, 2 * t])]) (c1 := 0) (s1 := 0) (c2 := 19) (s2 := 1064) (by exact rfl) ?_ (by omega) (by omega)
  refine jT_xaload (v := (4, 23)) (pcN := 18) jIS_212_16 rfl rfl rfl ?_
  refine jT_xiconst (k := 0) (pcN := 19) jIS_212_18 rfl ?_
  refine jT_adv 1 (pcN := 20) (LN := [(4, (4, 23)), (0, (4, 0)), (1, (4, 1)), (2, (1, 2 * N))]) (stN := [(0, 0), (4, 23), (0, 0), (4, 23)]) (hsN := [jzS_251, (101, [], [1, 0, 0, 0, 0, 2 * t]), jgh, jgh, jgh, jgh, jgh, (130, [], [17, 18, 19, 20, 21, 22]), jgh, jgh, jgh, jgh, jgh, jgh, jgh, jgh, jgh, (100, [], (jenc (jlg 0))), (100, [], (jenc (jlg 1))), (100, [], (jenc (jlg 2))), (100, [], (jenc (jlg 3))), (100, [], (jenc (jlg 4))), (100, [], (jenc (jlg 5))), (101, [], [1, 0, 0, 0, 0, 2 * t])]) (c1 := 0) (s1 := 0) (c2 := 19) (s2 := 1064) (by exact rfl) ?_ (by omega) (by omega)
  refine jT_lald (x := 1) (a := 23) (j := 0) (fs := []) (X := [1, 0, 0, 0, 0, 2 * t]) jIS_212_20 rfl rfl rfl rfl ?_
  refine jT_eq (LN := [(4, (4, 23)), (0, (4, 0)), (1, (4, 1)), (2, (1, 2 * N))]) (stN := [(1, 1), (0, 0), (4, 23)]) (hsN := [jzS_251, (101, [], [1, 0, 0, 0, 0, 2 * t]), jgh, jgh, jgh, jgh, jgh, (130, [], [17, 18, 19, 20, 21, 22]), jgh, jgh, jgh, jgh, jgh, jgh, jgh, jgh, jgh, (100, [], (jenc (jlg 0))), (100, [], (jenc (jlg 1))), (100, [], (jenc (jlg 2))), (100, [], (jenc (jlg 3))), (100, [], (jenc (jlg 4))), (100, [], (jenc (jlg 5))), (101, [], [1, 0, 0, 0, 0, 2 * t])]) rfl rfl rfl ?_
  refine jT_xlload_n (v := (1, 2 * N)) (pcN := 22) jIS_212_21 rfl rfl rfl ?_
  refine jT_xlsub (x := 1) (y := 2 * N) (z := (-2) * N + 1) (pcN := 23) jIS_212_22 rfl (by omega) rfl ?_
  refine jT_adv 1 (pcN := 24) (LN := [(4, (4, 23)), (0, (4, 0)), (1, (4, 1)), (2, (1, 2 * N))]) (stN := []) (hsN := [jzS_251, (101, [], [1, 0, 0, 0, 0, 2 * t]), jgh, jgh, jgh, jgh, jgh, (130, [], [17, 18, 19, 20, 21, 22]), jgh, jgh, jgh, jgh, jgh, jgh, jgh, jgh, jgh, (100, [], (jenc (jlg 0))), (100, [], (jenc (jlg 1))), (100, [], (jenc (jlg 2))), (100, [], (jenc (jlg 3))), (100, [], (jenc (jlg 4))), (100, [], (jenc (jlg 5))), (101, [], [(-2) * N + 1, 0, 0, 0, 0, 2 * t])]) (c1 := 0) (s1 := 0) (c2 := 19) (s2 := 1064) (by exact rfl) ?_ (by omega) (by omega)
  refine jT_xaload_n (v := (4, 0)) (pcN := 25) jIS_212_24 rfl rfl rfl ?_
  refine jT_xaload (v := (4, 23)) (pcN := 27) jIS_212_25 rfl rfl rfl ?_
  refine jT_callA [0, 23, 2, 3, 4, 5, 6, 7, 8, 9, 10, 11, 12, 13, 14, 15, 16, 17, 18, 19, 20, 21, 22] (y := 213) (pcN := 30) (dC := 3) (bc1 := 19) (bc2 := 1064) (c1 := 0) (c2 := 0) (as := [(4, 0), (4, 23)]) (asC := [(4, 0), (4, 1)]) (LN := [(4, (4, 23)), (0, (4, 0)), (1, (4, 1)), (2, (1, 2 * N))]) (stN := []) (hsC := [jzS_251, (101, [], [(-2) * N + 1, 0, 0, 0, 0, 2 * t]), jgh, jgh, jgh, jgh, jgh, (130, [], [17, 18, 19, 20, 21, 22]), jgh, jgh, jgh, jgh, jgh, jgh, jgh, jgh, jgh, (100, [], (jenc (jlg 0))), (100, [], (jenc (jlg 1))), (100, [], (jenc (jlg 2))), (100, [], (jenc (jlg 3))), (100, [], (jenc (jlg 4))), (100, [], (jenc (jlg 5)))]) (ex := []) (v := (0, (jlz ((-2) * N + 1) 0 0 0 0 (2 * t)).sign)) (st2 := [(0, (jlz ((-2) * N + 1) 0 0 0 0 (2 * t)).sign)]) (hs2 := [jzS_251, (101, [], [1, 0, 0, 0, 0, 2 * t]), jgh, jgh, jgh, jgh, jgh, (130, [], [17, 18, 19, 20, 21, 22]), jgh, jgh, jgh, jgh, jgh, jgh, jgh, jgh, jgh, (100, [], (jenc (jlg 0))), (100, [], (jenc (jlg 1))), (100, [], (jenc (jlg 2))), (100, [], (jenc (jlg 3))), (100, [], (jenc (jlg 4))), (100, [], (jenc (jlg 5))), (101, [], [(-2) * N + 1, 0, 0, 0, 0, 2 * t])]) (jSl_sg_157 (d := 0) (e0 := (-2) * N + 1) (e1 := 0) (e2 := 0) (e3 := 0) (e4 := 0) (e5 := 2 * t) (by omega) (by omega) (by omega) (by omega) (by omega) (by omega)) (by rfl) (by rfl) (by rfl) (by rfl) ⟨rfl, rfl, rfl, rfl, rfl, rfl, rfl, rfl, rfl, rfl, rfl, rfl, rfl, rfl, rfl, rfl, rfl, rfl, rfl, rfl, rfl, rfl, rfl, trivial⟩ (by rfl) (by rfl) (by omega) (by show 23 ≤ 24; omega) (by omega) (by omega) rfl rfl ?_
  have hb_q1 := jsgn_b (jlz ((-2) * N + 1) 0 0 0 0 (2 * t))
  generalize hq_q1 : (jlz ((-2) * N + 1) 0 0 0 0 (2 * t)).sign = q1 at hb_q1 g_0 ⊢
  refine jT_loc (LN := [(0, (4, 0))]) (by show List.Nodup [0]; decide) (by intro q hq; simp only [List.mem_cons, List.not_mem_nil, or_false] at hq; rcases hq with rfl <;> rfl) ?_
  refine jT_drop 23 (hs0 := [jzS_251, (101, [], [1, 0, 0, 0, 0, 2 * t]), jgh, jgh, jgh, jgh, jgh, (130, [], [17, 18, 19, 20, 21, 22]), jgh, jgh, jgh, jgh, jgh, jgh, jgh, jgh, jgh, (100, [], (jenc (jlg 0))), (100, [], (jenc (jlg 1))), (100, [], (jenc (jlg 2))), (100, [], (jenc (jlg 3))), (100, [], (jenc (jlg 4))), (100, [], (jenc (jlg 5)))]) (ex := [(101, [], [(-2) * N + 1, 0, 0, 0, 0, 2 * t])]) rfl rfl rfl (by decide) ?_
  subst hq_q1
  exact jT_ret rfl (by decide) (by show 23 ≤ 23; omega) (by omega) (by omega) ⟨rfl, rfl, rfl⟩
theorem jSl_pc_226 {xs : List Int} {d : Nat} {t : Int} (h_t : 1 ≤ t ∧ t ≤ 60) {N d1 d2 d3 d4 d5 : Int} (fd1 : ((FP.l2d (Int64.ofInt (2 * t))).toNat : Int) = d1) (fd2 : jn64 (FP.dmul (ju64 4615515068267881011) (ju64 d1)) = true ∧ ((FP.dmul (ju64 4615515068267881011) (ju64 d1)).toNat : Int) = d2) (fd3 : jn64 (FP.dadd (ju64 4607182418800017408) (ju64 d2)) = true ∧ ((FP.dadd (ju64 4607182418800017408) (ju64 d2)).toNat : Int) = d3) (fd4 : jn64 (FP.ddiv (ju64 d3) (ju64 4611686018427387904)) = true ∧ ((FP.ddiv (ju64 d3) (ju64 4611686018427387904)).toNat : Int) = d4) (fd5 : (FP.d2l (ju64 d4)).toInt = d5) (h_N : (-1099511627776) ≤ N ∧ N ≤ 1099511627776) (h1 : N ≤ d5) (h2 : d5 ≤ N + 1) (hA : 0 ≤ jlz ((-2) * N + 1) 0 0 0 0 (2 * t)) (hB : jlz ((-2) * N - 1) 0 0 0 0 (2 * t) < 0) : jT xs (d + 5) 210 23 0 [(0, (4, 0)), (1, (4, 1)), (2, (1, 2))] [] [jzS_251, (101, [], [1, 0, 0, 0, 0, 2 * t]), jgh, jgh, jgh, jgh, jgh, (130, [], [17, 18, 19, 20, 21, 22]), jgh, jgh, jgh, jgh, jgh, jgh, jgh, jgh, jgh, (100, [], (jenc (jlg 0))), (100, [], (jenc (jlg 1))), (100, [], (jenc (jlg 2))), (100, [], (jenc (jlg 3))), (100, [], (jenc (jlg 4))), (100, [], (jenc (jlg 5)))] 60 3210 (fun k v hsN => k = 0 ∧ v = (1, N) ∧ hsN = [jzS_251, (101, [], [1, 0, 0, 0, 0, 2 * t]), jgh, jgh, jgh, jgh, jgh, (130, [], [17, 18, 19, 20, 21, 22]), jgh, jgh, jgh, jgh, jgh, jgh, jgh, jgh, jgh, (100, [], (jenc (jlg 0))), (100, [], (jenc (jlg 1))), (100, [], (jenc (jlg 2))), (100, [], (jenc (jlg 3))), (100, [], (jenc (jlg 4))), (100, [], (jenc (jlg 5)))]) := by
  rcases (show d5 = N + 1 ∨ d5 = N by omega) with g_n | g_n
  · have g_0 : (jlz ((-2) * N - 1) 0 0 0 0 (2 * t)).sign < 0 := jsgn_n (Int.lt_of_le_of_lt (jlz_mono (by omega)) hB)
    have g_1 : 0 ≤ (jlz ((-2) * N + 1) 0 0 0 0 (2 * t)).sign := jsgn_p (Int.le_trans hA (jlz_mono (by omega)))
    refine jT_xaload_n (v := (4, 1)) (pcN := 1) jIS_210_0 rfl rfl rfl ?_
    refine jT_callA [1] (y := 211) (pcN := 4) (dC := 0) (bc1 := 0) (bc2 := 0) (c1 := 60) (c2 := 3210) (as := [(4, 1)]) (asC := [(4, 0)]) (LN := [(0, (4, 0)), (1, (4, 1)), (2, (1, 2))]) (stN := []) (hsC := [(101, [], [1, 0, 0, 0, 0, 2 * t])]) (ex := []) (v := (3, d3)) (st2 := [(3, d3)]) (hs2 := [jzS_251, (101, [], [1, 0, 0, 0, 0, 2 * t]), jgh, jgh, jgh, jgh, jgh, (130, [], [17, 18, 19, 20, 21, 22]), jgh, jgh, jgh, jgh, jgh, jgh, jgh, jgh, jgh, (100, [], (jenc (jlg 0))), (100, [], (jenc (jlg 1))), (100, [], (jenc (jlg 2))), (100, [], (jenc (jlg 3))), (100, [], (jenc (jlg 4))), (100, [], (jenc (jlg 5)))]) (jSl_ro_225 (d := 0) (by omega) fd1 fd2 fd3) (by rfl) (by rfl) (by rfl) (by rfl) ⟨rfl, trivial⟩ (by rfl) (by rfl) (by omega) (by show 23 ≤ 23; omega) (by omega) (by omega) rfl rfl ?_
    refine jT_xlload_n (v := (1, 2)) (pcN := 5) jIS_210_4 rfl rfl rfl ?_
    refine jT_l2d (x := 2) (z := 4611686018427387904) (by rfl) (by rfl) (by decide +kernel) ?_
    refine jT_ddiv (x := d3) (y := 4611686018427387904) (z := d4) (by rfl) (by rfl) fd4 ?_
    refine jT_d2l (x := d4) (z := d5) (by rfl) (by rfl) fd5 ?_
    refine jT_xlstore (v := (1, d5)) (LN := [(4, (1, d5)), (0, (4, 0)), (1, (4, 1)), (2, (1, 2))]) (pcN := 10) jIS_210_8 rfl rfl rfl rfl ?_
    refine jT_eq (LN := [(4, (1, N + 1)), (0, (4, 0)), (1, (4, 1)), (2, (1, 2))]) (stN := []) (hsN := [jzS_251, (101, [], [1, 0, 0, 0, 0, 2 * t]), jgh, jgh, jgh, jgh, jgh, (130, [], [17, 18, 19, 20, 21, 22]), jgh, jgh, jgh, jgh, jgh, jgh, jgh, jgh, jgh, (100, [], (jenc (jlg 0))), (100, [], (jenc (jlg 1))), (100, [], (jenc (jlg 2))), (100, [], (jenc (jlg 3))), (100, [], (jenc (jlg 4))), (100, [], (jenc (jlg 5)))]) (by rw [g_n]) rfl rfl ?_
    refine jT_xaload_n (v := (4, 0)) (pcN := 11) jIS_210_10 rfl rfl rfl ?_
    refine jT_xaload_n (v := (4, 1)) (pcN := 12) jIS_210_11 rfl rfl rfl ?_
    refine jT_xlload (v := (1, N + 1)) (pcN := 14) jIS_210_12 rfl rfl rfl ?_
    refine jT_xlload_n (v := (1, 2)) (pcN := 15) jIS_210_14 rfl rfl rfl ?_
    refine jT_xlmul (x := N + 1) (y := 2) (z := 2 * N + 2) (pcN := 16) jIS_210_15 rfl (by omega) rfl ?_
    refine jT_callA [0, 1, 2, 3, 4, 5, 6, 7, 8, 9, 10, 11, 12, 13, 14, 15, 16, 17, 18, 19, 20, 21, 22] (y := 212) (pcN := 19) (dC := 4) (bc1 := 20) (bc2 := 1070) (c1 := 40) (c2 := 2140) (as := [(4, 0), (4, 1), (1, 2 * N + 2)]) (asC := [(4, 0), (4, 1), (1, 2 * N + 2)]) (LN := [(4, (1, N + 1)), (0, (4, 0)), (1, (4, 1)), (2, (1, 2))]) (stN := []) (hsC := [jzS_251, (101, [], [1, 0, 0, 0, 0, 2 * t]), jgh, jgh, jgh, jgh, jgh, (130, [], [17, 18, 19, 20, 21, 22]), jgh, jgh, jgh, jgh, jgh, jgh, jgh, jgh, jgh, (100, [], (jenc (jlg 0))), (100, [], (jenc (jlg 1))), (100, [], (jenc (jlg 2))), (100, [], (jenc (jlg 3))), (100, [], (jenc (jlg 4))), (100, [], (jenc (jlg 5)))]) (ex := []) (v := (0, (jlz ((-2) * N - 1) 0 0 0 0 (2 * t)).sign)) (st2 := [(0, (jlz ((-2) * N - 1) 0 0 0 0 (2 * t)).sign)]) (hs2 := [jzS_251, (101, [], [1, 0, 0, 0, 0, 2 * t]), jgh, jgh, jgh, jgh, jgh, (130, [], [17, 18, 19, 20, 21, 22]), jgh, jgh, jgh, jgh, jgh, jgh, jgh, jgh, jgh, (100, [], (jenc (jlg 0))), (100, [], (jenc (jlg 1))), (100, [], (jenc (jlg 2))), (100, [], (jenc (jlg 3))), (100, [], (jenc (jlg 4))), (100, [], (jenc (jlg 5)))]) (jS_212_230 (d := 0) (by omega) (by omega) (by omega) (by omega)) (by rfl) (by rfl) (by rfl) (by rfl) ⟨rfl, rfl, rfl, rfl, rfl, rfl, rfl, rfl, rfl, rfl, rfl, rfl, rfl, rfl, rfl, rfl, rfl, rfl, rfl, rfl, rfl, rfl, rfl, trivial⟩ (by rfl) (by rfl) (by omega) (by show 23 ≤ 23; omega) (by omega) (by omega) rfl rfl ?_
    have hb_q1 := jsgn_b (jlz ((-2) * N - 1) 0 0 0 0 (2 * t))
    generalize hq_q1 : (jlz ((-2) * N - 1) 0 0 0 0 (2 * t)).sign = q1 at hb_q1 g_0 ⊢
    refine jT_ifF (a := q1) (t := 31) (by rfl) (by rfl) (by rfl) (jw_idd (by omega) (by omega)) (by simp only [jcP] <;> omega) ?_
    refine jT_xlload (v := (1, N + 1)) (pcN := 24) jIS_210_22 rfl rfl rfl ?_
    refine jT_xlconst (z := 1) (pcN := 25) jIS_210_24 rfl rfl ?_
    refine jT_xlsub (x := N + 1) (y := 1) (z := N) (pcN := 26) jIS_210_25 rfl (by omega) rfl ?_
    refine jT_xlstore (v := (1, N)) (LN := [(4, (1, N)), (0, (4, 0)), (1, (4, 1)), (2, (1, 2))]) (pcN := 28) jIS_210_26 rfl rfl rfl rfl ?_
    refine jT_xgoto (pcN := 10) jIS_210_28 rfl ?_
    refine jT_xaload_n (v := (4, 0)) (pcN := 11) jIS_210_10 rfl rfl rfl ?_
    refine jT_xaload_n (v := (4, 1)) (pcN := 12) jIS_210_11 rfl rfl rfl ?_
    refine jT_xlload (v := (1, N)) (pcN := 14) jIS_210_12 rfl rfl rfl ?_
    refine jT_xlload_n (v := (1, 2)) (pcN := 15) jIS_210_14 rfl rfl rfl ?_
    refine jT_xlmul (x := N) (y := 2) (z := 2 * N) (pcN := 16) jIS_210_15 rfl (by omega) rfl ?_
    refine jT_callA [0, 1, 2, 3, 4, 5, 6, 7, 8, 9, 10, 11, 12, 13, 14, 15, 16, 17, 18, 19, 20, 21, 22] (y := 212) (pcN := 19) (dC := 4) (bc1 := 20) (bc2 := 1070) (c1 := 20) (c2 := 1070) (as := [(4, 0), (4, 1), (1, 2 * N)]) (asC := [(4, 0), (4, 1), (1, 2 * N)]) (LN := [(4, (1, N)), (0, (4, 0)), (1, (4, 1)), (2, (1, 2))]) (stN := []) (hsC := [jzS_251, (101, [], [1, 0, 0, 0, 0, 2 * t]), jgh, jgh, jgh, jgh, jgh, (130, [], [17, 18, 19, 20, 21, 22]), jgh, jgh, jgh, jgh, jgh, jgh, jgh, jgh, jgh, (100, [], (jenc (jlg 0))), (100, [], (jenc (jlg 1))), (100, [], (jenc (jlg 2))), (100, [], (jenc (jlg 3))), (100, [], (jenc (jlg 4))), (100, [], (jenc (jlg 5)))]) (ex := []) (v := (0, (jlz ((-2) * N + 1) 0 0 0 0 (2 * t)).sign)) (st2 := [(0, (jlz ((-2) * N + 1) 0 0 0 0 (2 * t)).sign)]) (hs2 := [jzS_251, (101, [], [1, 0, 0, 0, 0, 2 * t]), jgh, jgh, jgh, jgh, jgh, (130, [], [17, 18, 19, 20, 21, 22]), jgh, jgh, jgh, jgh, jgh, jgh, jgh, jgh, jgh, (100, [], (jenc (jlg 0))), (100, [], (jenc (jlg 1))), (100, [], (jenc (jlg 2))), (100, [], (jenc (jlg 3))), (100, [], (jenc (jlg 4))), (100, [], (jenc (jlg 5)))]) (jS_212_231 (d := 0) (by omega) (by omega) (by omega)) (by rfl) (by rfl) (by rfl) (by rfl) ⟨rfl, rfl, rfl, rfl, rfl, rfl, rfl, rfl, rfl, rfl, rfl, rfl, rfl, rfl, rfl, rfl, rfl, rfl, rfl, rfl, rfl, rfl, rfl, trivial⟩ (by rfl) (by rfl) (by omega) (by show 23 ≤ 23; omega) (by omega) (by omega) rfl rfl ?_
    have hb_q2 := jsgn_b (jlz ((-2) * N + 1) 0 0 0 0 (2 * t))
    generalize hq_q2 : (jlz ((-2) * N + 1) 0 0 0 0 (2 * t)).sign = q2 at hb_q2 g_1 ⊢
    refine jT_ifT (a := q2) (t := 31) (by rfl) (by rfl) (by rfl) (jw_idd (by omega) (by omega)) (by simp only [jcP] <;> omega) ?_
    refine jT_xaload_n (v := (4, 0)) (pcN := 32) jIS_210_31 rfl rfl rfl ?_
    refine jT_xaload_n (v := (4, 1)) (pcN := 33) jIS_210_32 rfl rfl rfl ?_
    refine jT_xlload (v := (1, N)) (pcN := 35) jIS_210_33 rfl rfl rfl ?_
    refine jT_xlconst (z := 1) (pcN := 36) jIS_210_35 rfl rfl ?_
    refine jT_xladd (x := N) (y := 1) (z := N + 1) (pcN := 37) jIS_210_36 rfl (rfl) rfl ?_
    refine jT_xlload_n (v := (1, 2)) (pcN := 38) jIS_210_37 rfl rfl rfl ?_
    refine jT_xlmul (x := N + 1) (y := 2) (z := 2 * N + 2) (pcN := 39) jIS_210_38 rfl (by omega) rfl ?_
    refine jT_callA [0, 1, 2, 3, 4, 5, 6, 7, 8, 9, 10, 11, 12, 13, 14, 15, 16, 17, 18, 19, 20, 21, 22] (y := 212) (pcN := 42) (dC := 4) (bc1 := 20) (bc2 := 1070) (c1 := 0) (c2 := 0) (as := [(4, 0), (4, 1), (1, 2 * N + 2)]) (asC := [(4, 0), (4, 1), (1, 2 * N + 2)]) (LN := [(4, (1, N)), (0, (4, 0)), (1, (4, 1)), (2, (1, 2))]) (stN := []) (hsC := [jzS_251, (101, [], [1, 0, 0, 0, 0, 2 * t]), jgh, jgh, jgh, jgh, jgh, (130, [], [17, 18, 19, 20, 21, 22]), jgh, jgh, jgh, jgh, jgh, jgh, jgh, jgh, jgh, (100, [], (jenc (jlg 0))), (100, [], (jenc (jlg 1))), (100, [], (jenc (jlg 2))), (100, [], (jenc (jlg 3))), (100, [], (jenc (jlg 4))), (100, [], (jenc (jlg 5)))]) (ex := []) (v := (0, (jlz ((-2) * N - 1) 0 0 0 0 (2 * t)).sign)) (st2 := [(0, (jlz ((-2) * N - 1) 0 0 0 0 (2 * t)).sign)]) (hs2 := [jzS_251, (101, [], [1, 0, 0, 0, 0, 2 * t]), jgh, jgh, jgh, jgh, jgh, (130, [], [17, 18, 19, 20, 21, 22]), jgh, jgh, jgh, jgh, jgh, jgh, jgh, jgh, jgh, (100, [], (jenc (jlg 0))), (100, [], (jenc (jlg 1))), (100, [], (jenc (jlg 2))), (100, [], (jenc (jlg 3))), (100, [], (jenc (jlg 4))), (100, [], (jenc (jlg 5)))]) (jS_212_227 (d := 0) (by omega) (by omega)) (by rfl) (by rfl) (by rfl) (by rfl) ⟨rfl, rfl, rfl, rfl, rfl, rfl, rfl, rfl, rfl, rfl, rfl, rfl, rfl, rfl, rfl, rfl, rfl, rfl, rfl, rfl, rfl, rfl, rfl, trivial⟩ (by rfl) (by rfl) (by omega) (by show 23 ≤ 23; omega) (by omega) (by omega) rfl rfl ?_
    rw [hq_q1]
    refine jT_ifT (a := q1) (t := 54) (by rfl) (by rfl) (by rfl) (jw_idd (by omega) (by omega)) (by simp only [jcP] <;> omega) ?_
    refine jT_xlload (v := (1, N)) (pcN := 56) jIS_210_54 rfl rfl rfl ?_
    exact jT_ret rfl (by decide) (by show 23 ≤ 23; decide) (by omega) (by omega) ⟨rfl, rfl, rfl⟩
  · have g_0 : 0 ≤ (jlz ((-2) * N + 1) 0 0 0 0 (2 * t)).sign := jsgn_p (Int.le_trans hA (jlz_mono (by omega)))
    have g_1 : (jlz ((-2) * N - 1) 0 0 0 0 (2 * t)).sign < 0 := jsgn_n (Int.lt_of_le_of_lt (jlz_mono (by omega)) hB)
    refine jT_xaload_n (v := (4, 1)) (pcN := 1) jIS_210_0 rfl rfl rfl ?_
    refine jT_callA [1] (y := 211) (pcN := 4) (dC := 0) (bc1 := 0) (bc2 := 0) (c1 := 60) (c2 := 3210) (as := [(4, 1)]) (asC := [(4, 0)]) (LN := [(0, (4, 0)), (1, (4, 1)), (2, (1, 2))]) (stN := []) (hsC := [(101, [], [1, 0, 0, 0, 0, 2 * t])]) (ex := []) (v := (3, d3)) (st2 := [(3, d3)]) (hs2 := [jzS_251, (101, [], [1, 0, 0, 0, 0, 2 * t]), jgh, jgh, jgh, jgh, jgh, (130, [], [17, 18, 19, 20, 21, 22]), jgh, jgh, jgh, jgh, jgh, jgh, jgh, jgh, jgh, (100, [], (jenc (jlg 0))), (100, [], (jenc (jlg 1))), (100, [], (jenc (jlg 2))), (100, [], (jenc (jlg 3))), (100, [], (jenc (jlg 4))), (100, [], (jenc (jlg 5)))]) (jSl_ro_225 (d := 0) (by omega) fd1 fd2 fd3) (by rfl) (by rfl) (by rfl) (by rfl) ⟨rfl, trivial⟩ (by rfl) (by rfl) (by omega) (by show 23 ≤ 23; omega) (by omega) (by omega) rfl rfl ?_
    refine jT_xlload_n (v := (1, 2)) (pcN := 5) jIS_210_4 rfl rfl rfl ?_
    refine jT_l2d (x := 2) (z := 4611686018427387904) (by rfl) (by rfl) (by decide +kernel) ?_
    refine jT_ddiv (x := d3) (y := 4611686018427387904) (z := d4) (by rfl) (by rfl) fd4 ?_
    refine jT_d2l (x := d4) (z := d5) (by rfl) (by rfl) fd5 ?_
    refine jT_xlstore (v := (1, d5)) (LN := [(4, (1, d5)), (0, (4, 0)), (1, (4, 1)), (2, (1, 2))]) (pcN := 10) jIS_210_8 rfl rfl rfl rfl ?_
    refine jT_eq (LN := [(4, (1, N)), (0, (4, 0)), (1, (4, 1)), (2, (1, 2))]) (stN := []) (hsN := [jzS_251, (101, [], [1, 0, 0, 0, 0, 2 * t]), jgh, jgh, jgh, jgh, jgh, (130, [], [17, 18, 19, 20, 21, 22]), jgh, jgh, jgh, jgh, jgh, jgh, jgh, jgh, jgh, (100, [], (jenc (jlg 0))), (100, [], (jenc (jlg 1))), (100, [], (jenc (jlg 2))), (100, [], (jenc (jlg 3))), (100, [], (jenc (jlg 4))), (100, [], (jenc (jlg 5)))]) (by rw [g_n]) rfl rfl ?_
    refine jT_xaload_n (v := (4, 0)) (pcN := 11) jIS_210_10 rfl rfl rfl ?_
    refine jT_xaload_n (v := (4, 1)) (pcN := 12) jIS_210_11 rfl rfl rfl ?_
    refine jT_xlload (v := (1, N)) (pcN := 14) jIS_210_12 rfl rfl rfl ?_
    refine jT_xlload_n (v := (1, 2)) (pcN := 15) jIS_210_14 rfl rfl rfl ?_
    refine jT_xlmul (x := N) (y := 2) (z := 2 * N) (pcN := 16) jIS_210_15 rfl (by omega) rfl ?_
    refine jT_callA [0, 1, 2, 3, 4, 5, 6, 7, 8, 9, 10, 11, 12, 13, 14, 15, 16, 17, 18, 19, 20, 21, 22] (y := 212) (pcN := 19) (dC := 4) (bc1 := 20) (bc2 := 1070) (c1 := 40) (c2 := 2140) (as := [(4, 0), (4, 1), (1, 2 * N)]) (asC := [(4, 0), (4, 1), (1, 2 * N)]) (LN := [(4, (1, N)), (0, (4, 0)), (1, (4, 1)), (2, (1, 2))]) (stN := []) (hsC := [jzS_251, (101, [], [1, 0, 0, 0, 0, 2 * t]), jgh, jgh, jgh, jgh, jgh, (130, [], [17, 18, 19, 20, 21, 22]), jgh, jgh, jgh, jgh, jgh, jgh, jgh, jgh, jgh, (100, [], (jenc (jlg 0))), (100, [], (jenc (jlg 1))), (100, [], (jenc (jlg 2))), (100, [], (jenc (jlg 3))), (100, [], (jenc (jlg 4))), (100, [], (jenc (jlg 5)))]) (ex := []) (v := (0, (jlz ((-2) * N + 1) 0 0 0 0 (2 * t)).sign)) (st2 := [(0, (jlz ((-2) * N + 1) 0 0 0 0 (2 * t)).sign)]) (hs2 := [jzS_251, (101, [], [1, 0, 0, 0, 0, 2 * t]), jgh, jgh, jgh, jgh, jgh, (130, [], [17, 18, 19, 20, 21, 22]), jgh, jgh, jgh, jgh, jgh, jgh, jgh, jgh, jgh, (100, [], (jenc (jlg 0))), (100, [], (jenc (jlg 1))), (100, [], (jenc (jlg 2))), (100, [], (jenc (jlg 3))), (100, [], (jenc (jlg 4))), (100, [], (jenc (jlg 5)))]) (jS_212_232 (d := 0) (by omega) (by omega) (by omega) (by omega)) (by rfl) (by rfl) (by rfl) (by rfl) ⟨rfl, rfl, rfl, rfl, rfl, rfl, rfl, rfl, rfl, rfl, rfl, rfl, rfl, rfl, rfl, rfl, rfl, rfl, rfl, rfl, rfl, rfl, rfl, trivial⟩ (by rfl) (by rfl) (by omega) (by show 23 ≤ 23; omega) (by omega) (by omega) rfl rfl ?_
    have hb_q1 := jsgn_b (jlz ((-2) * N + 1) 0 0 0 0 (2 * t))
    generalize hq_q1 : (jlz ((-2) * N + 1) 0 0 0 0 (2 * t)).sign = q1 at hb_q1 g_0 ⊢
    refine jT_ifT (a := q1) (t := 31) (by rfl) (by rfl) (by rfl) (jw_idd (by omega) (by omega)) (by simp only [jcP] <;> omega) ?_
    refine jT_xaload_n (v := (4, 0)) (pcN := 32) jIS_210_31 rfl rfl rfl ?_
    refine jT_xaload_n (v := (4, 1)) (pcN := 33) jIS_210_32 rfl rfl rfl ?_
    refine jT_xlload (v := (1, N)) (pcN := 35) jIS_210_33 rfl rfl rfl ?_
    refine jT_xlconst (z := 1) (pcN := 36) jIS_210_35 rfl rfl ?_
    refine jT_xladd (x := N) (y := 1) (z := N + 1) (pcN := 37) jIS_210_36 rfl (rfl) rfl ?_
    refine jT_xlload_n (v := (1, 2)) (pcN := 38) jIS_210_37 rfl rfl rfl ?_
    refine jT_xlmul (x := N + 1) (y := 2) (z := 2 * N + 2) (pcN := 39) jIS_210_38 rfl (by omega) rfl ?_
    refine jT_callA [0, 1, 2, 3, 4, 5, 6, 7, 8, 9, 10, 11, 12, 13, 14, 15, 16, 17, 18, 19, 20, 21, 22] (y := 212) (pcN := 42) (dC := 4) (bc1 := 20) (bc2 := 1070) (c1 := 20) (c2 := 1070) (as := [(4, 0), (4, 1), (1, 2 * N + 2)]) (asC := [(4, 0), (4, 1), (1, 2 * N + 2)]) (LN := [(4, (1, N)), (0, (4, 0)), (1, (4, 1)), (2, (1, 2))]) (stN := []) (hsC := [jzS_251, (101, [], [1, 0, 0, 0, 0, 2 * t]), jgh, jgh, jgh, jgh, jgh, (130, [], [17, 18, 19, 20, 21, 22]), jgh, jgh, jgh, jgh, jgh, jgh, jgh, jgh, jgh, (100, [], (jenc (jlg 0))), (100, [], (jenc (jlg 1))), (100, [], (jenc (jlg 2))), (100, [], (jenc (jlg 3))), (100, [], (jenc (jlg 4))), (100, [], (jenc (jlg 5)))]) (ex := []) (v := (0, (jlz ((-2) * N - 1) 0 0 0 0 (2 * t)).sign)) (st2 := [(0, (jlz ((-2) * N - 1) 0 0 0 0 (2 * t)).sign)]) (hs2 := [jzS_251, (101, [], [1, 0, 0, 0, 0, 2 * t]), jgh, jgh, jgh, jgh, jgh, (130, [], [17, 18, 19, 20, 21, 22]), jgh, jgh, jgh, jgh, jgh, jgh, jgh, jgh, jgh, (100, [], (jenc (jlg 0))), (100, [], (jenc (jlg 1))), (100, [], (jenc (jlg 2))), (100, [], (jenc (jlg 3))), (100, [], (jenc (jlg 4))), (100, [], (jenc (jlg 5)))]) (jS_212_228 (d := 0) (by omega) (by omega) (by omega)) (by rfl) (by rfl) (by rfl) (by rfl) ⟨rfl, rfl, rfl, rfl, rfl, rfl, rfl, rfl, rfl, rfl, rfl, rfl, rfl, rfl, rfl, rfl, rfl, rfl, rfl, rfl, rfl, rfl, rfl, trivial⟩ (by rfl) (by rfl) (by omega) (by show 23 ≤ 23; omega) (by omega) (by omega) rfl rfl ?_
    have hb_q2 := jsgn_b (jlz ((-2) * N - 1) 0 0 0 0 (2 * t))
    generalize hq_q2 : (jlz ((-2) * N - 1) 0 0 0 0 (2 * t)).sign = q2 at hb_q2 g_1 ⊢
    refine jT_ifT (a := q2) (t := 54) (by rfl) (by rfl) (by rfl) (jw_idd (by omega) (by omega)) (by simp only [jcP] <;> omega) ?_
    refine jT_xlload (v := (1, N)) (pcN := 56) jIS_210_54 rfl rfl rfl ?_
    exact jT_ret rfl (by decide) (by show 23 ≤ 23; decide) (by omega) (by omega) ⟨rfl, rfl, rfl⟩
theorem jSl_ps_233 {xs : List Int} {d : Nat} {t : Int} (h_t : 1 ≤ t ∧ t ≤ 60) : jT xs (d + 5) 210 23 0 [(0, (4, 0)), (1, (4, 1)), (2, (1, 2))] [] [jzS_251, (101, [], [1, 0, 0, 0, 0, 2 * t]), jgh, jgh, jgh, jgh, jgh, (130, [], [17, 18, 19, 20, 21, 22]), jgh, jgh, jgh, jgh, jgh, jgh, jgh, jgh, jgh, (100, [], (jenc (jlg 0))), (100, [], (jenc (jlg 1))), (100, [], (jenc (jlg 2))), (100, [], (jenc (jlg 3))), (100, [], (jenc (jlg 4))), (100, [], (jenc (jlg 5)))] 60 3210 (fun k v hsN => k = 0 ∧ v = (1, jbp5 t) ∧ hsN = [jzS_251, (101, [], [1, 0, 0, 0, 0, 2 * t]), jgh, jgh, jgh, jgh, jgh, (130, [], [17, 18, 19, 20, 21, 22]), jgh, jgh, jgh, jgh, jgh, jgh, jgh, jgh, jgh, (100, [], (jenc (jlg 0))), (100, [], (jenc (jlg 1))), (100, [], (jenc (jlg 2))), (100, [], (jenc (jlg 3))), (100, [], (jenc (jlg 4))), (100, [], (jenc (jlg 5)))]) := by
  obtain ⟨d1, d2, d3, d4, d5, fd1, fd2, fd3, fd4, fd5, h1, h2, h3, hA, hB⟩ := jbx_5 (p := t) (by omega)
  exact jSl_pc_226 (by omega) fd1 fd2 fd3 fd4 fd5 h3 h1 h2 hA hB
theorem jS_216_234 {xs : List Int} {d : Nat} {t : Int} (h_t : 1 ≤ t ∧ t ≤ 60) (g_0 : t - 61 < 0) : jT xs (d + 6) 216 23 0 [(0, (4, 0)), (1, (4, 1)), (2, (1, 1))] [] [jzS_251, (101, [], [0, 0, 0, 0, 0, t]), jgh, jgh, jgh, jgh, jgh, (130, [], [17, 18, 19, 20, 21, 22]), jgh, jgh, jgh, jgh, jgh, jgh, jgh, jgh, jgh, (100, [], (jenc (jlg 0))), (100, [], (jenc (jlg 1))), (100, [], (jenc (jlg 2))), (100, [], (jenc (jlg 3))), (100, [], (jenc (jlg 4))), (100, [], (jenc (jlg 5)))] 61 3216 (fun k v hsN => k = 0 ∧ v = (1, jbp5 t) ∧ hsN = [jzS_251, (101, [], [0, 0, 0, 0, 0, t]), jgh, jgh, jgh, jgh, jgh, (130, [], [17, 18, 19, 20, 21, 22]), jgh, jgh, jgh, jgh, jgh, jgh, jgh, jgh, jgh, (100, [], (jenc (jlg 0))), (100, [], (jenc (jlg 1))), (100, [], (jenc (jlg 2))), (100, [], (jenc (jlg 3))), (100, [], (jenc (jlg 4))), (100, [], (jenc (jlg 5)))] ++ []) := by
  refine jT_xbipush (k := 6) (pcN := 2) jIS_216_0 (by decide) rfl ?_
  refine jT_adv 1 (pcN := 4) (LN := [(0, (4, 0)), (1, (4, 1)), (2, (1, 1))]) (stN := [(4, 23)]) (hsN := [jzS_251, (101, [], [0, 0, 0, 0, 0, t]), jgh, jgh, jgh, jgh, jgh, (130, [], [17, 18, 19, 20, 21, 22]), jgh, jgh, jgh, jgh, jgh, jgh, jgh, jgh, jgh, (100, [], (jenc (jlg 0))), (100, [], (jenc (jlg 1))), (100, [], (jenc (jlg 2))), (100, [], (jenc (jlg 3))), (100, [], (jenc (jlg 4))), (100, [], (jenc (jlg 5))), (101, [], [0, 0, 0, 0, 0, 0])]) (c1 := 1) (s1 := 6) (c2 := 60) (s2 := 3210) (by exact rfl) ?_ (by omega) (by omega)
  refine jT_xastore (v := (4, 23)) (LN := [(4, (4, 23)), (0, (4, 0)), (1, (4, 1)), (2, (1, 1))]) (pcN := 6) jIS_216_4 rfl rfl rfl rfl ?_
  refine jT_xiconst (k := 0) (pcN := 7) jIS_216_6 rfl ?_
  refine jT_xistore (v := (0, 0)) (LN := [(5, (0, 0)), (4, (4, 23)), (0, (4, 0)), (1, (4, 1)), (2, (1, 1))]) (pcN := 9) jIS_216_7 rfl rfl rfl rfl ?_
  refine jT_xiload (v := (0, 0)) (pcN := 11) jIS_216_9 rfl rfl rfl ?_
  refine jT_xbipush (k := 6) (pcN := 13) jIS_216_11 (by decide) rfl ?_
  refine jT_xicF (t := 35) (pcN := 16) jIS_216_13 rfl (by decide +kernel) rfl rfl ?_
  refine jT_xaload (v := (4, 23)) (pcN := 18) jIS_216_16 rfl rfl rfl ?_
  refine jT_xiload (v := (0, 0)) (pcN := 20) jIS_216_18 rfl rfl rfl ?_
  refine jT_adv 1 (pcN := 23) (LN := [(5, (0, 0)), (4, (4, 23)), (0, (4, 0)), (1, (4, 1)), (2, (1, 1))]) (stN := [(1, 2), (0, 0), (4, 23)]) (hsN := [jzS_251, (101, [], [0, 0, 0, 0, 0, t]), jgh, jgh, jgh, jgh, jgh, (130, [], [17, 18, 19, 20, 21, 22]), jgh, jgh, jgh, jgh, jgh, jgh, jgh, jgh, jgh, (100, [], (jenc (jlg 0))), (100, [], (jenc (jlg 1))), (100, [], (jenc (jlg 2))), (100, [], (jenc (jlg 3))), (100, [], (jenc (jlg 4))), (100, [], (jenc (jlg 5))), (101, [], [0, 0, 0, 0, 0, 0])]) (c1 := 0) (s1 := 0) (c2 := 60) (s2 := 3210) (by exact rfl) ?_ (by omega) (by omega)
  refine jT_xaload_n (v := (4, 1)) (pcN := 24) jIS_216_23 rfl rfl rfl ?_
  refine jT_xiload (v := (0, 0)) (pcN := 26) jIS_216_24 rfl rfl rfl ?_
  refine jT_lald (x := 0) (a := 1) (j := 0) (fs := []) (X := [0, 0, 0, 0, 0, t]) jIS_216_26 rfl rfl rfl rfl ?_
  refine jT_eq (LN := [(5, (0, 0)), (4, (4, 23)), (0, (4, 0)), (1, (4, 1)), (2, (1, 1))]) (stN := [(1, 0), (1, 2), (0, 0), (4, 23)]) (hsN := [jzS_251, (101, [], [0, 0, 0, 0, 0, t]), jgh, jgh, jgh, jgh, jgh, (130, [], [17, 18, 19, 20, 21, 22]), jgh, jgh, jgh, jgh, jgh, jgh, jgh, jgh, jgh, (100, [], (jenc (jlg 0))), (100, [], (jenc (jlg 1))), (100, [], (jenc (jlg 2))), (100, [], (jenc (jlg 3))), (100, [], (jenc (jlg 4))), (100, [], (jenc (jlg 5))), (101, [], [0, 0, 0, 0, 0, 0])]) rfl rfl rfl ?_
  refine jT_xlmul (x := 2) (y := 0) (z := 0) (pcN := 28) jIS_216_27 rfl (by decide) rfl ?_
  refine jT_adv 1 (pcN := 29) (LN := [(5, (0, 0)), (4, (4, 23)), (0, (4, 0)), (1, (4, 1)), (2, (1, 1))]) (stN := []) (hsN := [jzS_251, (101, [], [0, 0, 0, 0, 0, t]), jgh, jgh, jgh, jgh, jgh, (130, [], [17, 18, 19, 20, 21, 22]), jgh, jgh, jgh, jgh, jgh, jgh, jgh, jgh, jgh, (100, [], (jenc (jlg 0))), (100, [], (jenc (jlg 1))), (100, [], (jenc (jlg 2))), (100, [], (jenc (jlg 3))), (100, [], (jenc (jlg 4))), (100, [], (jenc (jlg 5))), (101, [], [0, 0, 0, 0, 0, 0])]) (c1 := 0) (s1 := 0) (c2 := 60) (s2 := 3210) (by exact rfl) ?_ (by omega) (by omega)
  refine jT_xiinc (x := 0) (z := 1) (LN := [(5, (0, 1)), (4, (4, 23)), (0, (4, 0)), (1, (4, 1)), (2, (1, 1))]) (pcN := 32) jIS_216_29 rfl rfl (by decide) rfl rfl ?_
  refine jT_xgoto (pcN := 9) jIS_216_32 rfl ?_
  refine jT_xiload (v := (0, 1)) (pcN := 11) jIS_216_9 rfl rfl rfl ?_
  refine jT_xbipush (k := 6) (pcN := 13) jIS_216_11 (by decide) rfl ?_
  refine jT_xicF (t := 35) (pcN := 16) jIS_216_13 rfl (by decide +kernel) rfl rfl ?_
  refine jT_xaload (v := (4, 23)) (pcN := 18) jIS_216_16 rfl rfl rfl ?_
  refine jT_xiload (v := (0, 1)) (pcN := 20) jIS_216_18 rfl rfl rfl ?_
  refine jT_adv 1 (pcN := 23) (LN := [(5, (0, 1)), (4, (4, 23)), (0, (4, 0)), (1, (4, 1)), (2, (1, 1))]) (stN := [(1, 2), (0, 1), (4, 23)]) (hsN := [jzS_251, (101, [], [0, 0, 0, 0, 0, t]), jgh, jgh, jgh, jgh, jgh, (130, [], [17, 18, 19, 20, 21, 22]), jgh, jgh, jgh, jgh, jgh, jgh, jgh, jgh, jgh, (100, [], (jenc (jlg 0))), (100, [], (jenc (jlg 1))), (100, [], (jenc (jlg 2))), (100, [], (jenc (jlg 3))), (100, [], (jenc (jlg 4))), (100, [], (jenc (jlg 5))), (101, [], [0, 0, 0, 0, 0, 0])]) (c1 := 0) (s1 := 0) (c2 := 60) (s2 := 3210) (by exact rfl) ?_ (by omega) (by omega)
  refine jT_xaload_n (v := (4, 1)) (pcN := 24) jIS_216_23 rfl rfl rfl ?_
  refine jT_xiload (v := (0, 1)) (pcN := 26) jIS_216_24 rfl rfl rfl ?_
  refine jT_lald (x := 0) (a := 1) (j := 1) (fs := []) (X := [0, 0, 0, 0, 0, t]) jIS_216_26 rfl rfl rfl rfl ?_
  refine jT_eq (LN := [(5, (0, 1)), (4, (4, 23)), (0, (4, 0)), (1, (4, 1)), (2, (1, 1))]) (stN := [(1, 0), (1, 2), (0, 1), (4, 23)]) (hsN := [jzS_251, (101, [], [0, 0, 0, 0, 0, t]), jgh, jgh, jgh, jgh, jgh, (130, [], [17, 18, 19, 20, 21, 22]), jgh, jgh, jgh, jgh, jgh, jgh, jgh, jgh, jgh, (100, [], (jenc (jlg 0))), (100, [], (jenc (jlg 1))), (100, [], (jenc (jlg 2))), (100, [], (jenc (jlg 3))), (100, [], (jenc (jlg 4))), (100, [], (jenc (jlg 5))), (101, [], [0, 0, 0, 0, 0, 0])]) rfl rfl rfl ?_
  refine jT_xlmul (x := 2) (y := 0) (z := 0) (pcN := 28) jIS_216_27 rfl (by decide) rfl ?_
  refine jT_adv 1 (pcN := 29) (LN := [(5, (0, 1)), (4, (4, 23)), (0, (4, 0)), (1, (4, 1)), (2, (1, 1))]) (stN := []) (hsN := [jzS_251, (101, [], [0, 0, 0, 0, 0, t]), jgh, jgh, jgh, jgh, jgh, (130, [], [17, 18, 19, 20, 21, 22]), jgh, jgh, jgh, jgh, jgh, jgh, jgh, jgh, jgh, (100, [], (jenc (jlg 0))), (100, [], (jenc (jlg 1))), (100, [], (jenc (jlg 2))), (100, [], (jenc (jlg 3))), (100, [], (jenc (jlg 4))), (100, [], (jenc (jlg 5))), (101, [], [0, 0, 0, 0, 0, 0])]) (c1 := 0) (s1 := 0) (c2 := 60) (s2 := 3210) (by exact rfl) ?_ (by omega) (by omega)
  refine jT_xiinc (x := 1) (z := 2) (LN := [(5, (0, 2)), (4, (4, 23)), (0, (4, 0)), (1, (4, 1)), (2, (1, 1))]) (pcN := 32) jIS_216_29 rfl rfl (by decide) rfl rfl ?_
  refine jT_xgoto (pcN := 9) jIS_216_32 rfl ?_
  refine jT_xiload (v := (0, 2)) (pcN := 11) jIS_216_9 rfl rfl rfl ?_
  refine jT_xbipush (k := 6) (pcN := 13) jIS_216_11 (by decide) rfl ?_
  refine jT_xicF (t := 35) (pcN := 16) jIS_216_13 rfl (by decide +kernel) rfl rfl ?_
  refine jT_xaload (v := (4, 23)) (pcN := 18) jIS_216_16 rfl rfl rfl ?_
  refine jT_xiload (v := (0, 2)) (pcN := 20) jIS_216_18 rfl rfl rfl ?_
  refine jT_adv 1 (pcN := 23) (LN := [(5, (0, 2)), (4, (4, 23)), (0, (4, 0)), (1, (4, 1)), (2, (1, 1))]) (stN := [(1, 2), (0, 2), (4, 23)]) (hsN := [jzS_251, (101, [], [0, 0, 0, 0, 0, t]), jgh, jgh, jgh, jgh, jgh, (130, [], [17, 18, 19, 20, 21, 22]), jgh, jgh, jgh, jgh, jgh, jgh, jgh, jgh, jgh, (100, [], (jenc (jlg 0))), (100, [], (jenc (jlg 1))), (100, [], (jenc (jlg 2))), (100, [], (jenc (jlg 3))), (100, [], (jenc (jlg 4))), (100, [], (jenc (jlg 5))), (101, [], [0, 0, 0, 0, 0, 0])]) (c1 := 0) (s1 := 0) (c2 := 60) (s2 := 3210) (by exact rfl) ?_ (by omega) (by omega)
  refine jT_xaload_n (v := (4, 1)) (pcN := 24) jIS_216_23 rfl rfl rfl ?_
  refine jT_xiload (v := (0, 2)) (pcN := 26) jIS_216_24 rfl rfl rfl ?_
  refine jT_lald (x := 0) (a := 1) (j := 2) (fs := []) (X := [0, 0, 0, 0, 0, t]) jIS_216_26 rfl rfl rfl rfl ?_
  refine jT_eq (LN := [(5, (0, 2)), (4, (4, 23)), (0, (4, 0)), (1, (4, 1)), (2, (1, 1))]) (stN := [(1, 0), (1, 2), (0, 2), (4, 23)]) (hsN := [jzS_251, (101, [], [0, 0, 0, 0, 0, t]), jgh, jgh, jgh, jgh, jgh, (130, [], [17, 18, 19, 20, 21, 22]), jgh, jgh, jgh, jgh, jgh, jgh, jgh, jgh, jgh, (100, [], (jenc (jlg 0))), (100, [], (jenc (jlg 1))), (100, [], (jenc (jlg 2))), (100, [], (jenc (jlg 3))), (100, [], (jenc (jlg 4))), (100, [], (jenc (jlg 5))), (101, [], [0, 0, 0, 0, 0, 0])]) rfl rfl rfl ?_
  refine jT_xlmul (x := 2) (y := 0) (z := 0) (pcN := 28) jIS_216_27 rfl (by decide) rfl ?_
  refine jT_adv 1 (pcN := 29) (LN := [(5, (0, 2)), (4, (4, 23)), (0, (4, 0)), (1, (4, 1)), (2, (1, 1))]) (stN := []) (hsN := [jzS_251, (101, [], [0, 0, 0, 0, 0, t]), jgh, jgh, jgh, jgh, jgh, (130, [], [17, 18, 19, 20, 21, 22]), jgh, jgh, jgh, jgh, jgh, jgh, jgh, jgh, jgh, (100, [], (jenc (jlg 0))), (100, [], (jenc (jlg 1))), (100, [], (jenc (jlg 2))), (100, [], (jenc (jlg 3))), (100, [], (jenc (jlg 4))), (100, [], (jenc (jlg 5))), (101, [], [0, 0, 0, 0, 0, 0])]) (c1 := 0) (s1 := 0) (c2 := 60) (s2 := 3210) (by exact rfl) ?_ (by omega) (by omega)
  refine jT_xiinc (x := 2) (z := 3) (LN := [(5, (0, 3)), (4, (4, 23)), (0, (4, 0)), (1, (4, 1)), (2, (1, 1))]) (pcN := 32) jIS_216_29 rfl rfl (by decide) rfl rfl ?_
  refine jT_xgoto (pcN := 9) jIS_216_32 rfl ?_
  refine jT_xiload (v := (0, 3)) (pcN := 11) jIS_216_9 rfl rfl rfl ?_
  refine jT_xbipush (k := 6) (pcN := 13) jIS_216_11 (by decide) rfl ?_
  refine jT_xicF (t := 35) (pcN := 16) jIS_216_13 rfl (by decide +kernel) rfl rfl ?_
  refine jT_xaload (v := (4, 23)) (pcN := 18) jIS_216_16 rfl rfl rfl ?_
  refine jT_xiload (v := (0, 3)) (pcN := 20) jIS_216_18 rfl rfl rfl ?_
  refine jT_adv 1 (pcN := 23) (LN := [(5, (0, 3)), (4, (4, 23)), (0, (4, 0)), (1, (4, 1)), (2, (1, 1))]) (stN := [(1, 2), (0, 3), (4, 23)]) (hsN := [jzS_251, (101, [], [0, 0, 0, 0, 0, t]), jgh, jgh, jgh, jgh, jgh, (130, [], [17, 18, 19, 20, 21, 22]), jgh, jgh, jgh, jgh, jgh, jgh, jgh, jgh, jgh, (100, [], (jenc (jlg 0))), (100, [], (jenc (jlg 1))), (100, [], (jenc (jlg 2))), (100, [], (jenc (jlg 3))), (100, [], (jenc (jlg 4))), (100, [], (jenc (jlg 5))), (101, [], [0, 0, 0, 0, 0, 0])]) (c1 := 0) (s1 := 0) (c2 := 60) (s2 := 3210) (by exact rfl) ?_ (by omega) (by omega)
  refine jT_xaload_n (v := (4, 1)) (pcN := 24) jIS_216_23 rfl rfl rfl ?_
  refine jT_xiload (v := (0, 3)) (pcN := 26) jIS_216_24 rfl rfl rfl ?_
  refine jT_lald (x := 0) (a := 1) (j := 3) (fs := []) (X := [0, 0, 0, 0, 0, t]) jIS_216_26 rfl rfl rfl rfl ?_
  refine jT_eq (LN := [(5, (0, 3)), (4, (4, 23)), (0, (4, 0)), (1, (4, 1)), (2, (1, 1))]) (stN := [(1, 0), (1, 2), (0, 3), (4, 23)]) (hsN := [jzS_251, (101, [], [0, 0, 0, 0, 0, t]), jgh, jgh, jgh, jgh, jgh, (130, [], [17, 18, 19, 20, 21, 22]), jgh, jgh, jgh, jgh, jgh, jgh, jgh, jgh, jgh, (100, [], (jenc (jlg 0))), (100, [], (jenc (jlg 1))), (100, [], (jenc (jlg 2))), (100, [], (jenc (jlg 3))), (100, [], (jenc (jlg 4))), (100, [], (jenc (jlg 5))), (101, [], [0, 0, 0, 0, 0, 0])]) rfl rfl rfl ?_
  refine jT_xlmul (x := 2) (y := 0) (z := 0) (pcN := 28) jIS_216_27 rfl (by decide) rfl ?_
  refine jT_adv 1 (pcN := 29) (LN := [(5, (0, 3)), (4, (4, 23)), (0, (4, 0)), (1, (4, 1)), (2, (1, 1))]) (stN := []) (hsN := [jzS_251, (101, [], [0, 0, 0, 0, 0, t]), jgh, jgh, jgh, jgh, jgh, (130, [], [17, 18, 19, 20, 21, 22]), jgh, jgh, jgh, jgh, jgh, jgh, jgh, jgh, jgh, (100, [], (jenc (jlg 0))), (100, [], (jenc (jlg 1))), (100, [], (jenc (jlg 2))), (100, [], (jenc (jlg 3))), (100, [], (jenc (jlg 4))), (100, [], (jenc (jlg 5))), (101, [], [0, 0, 0, 0, 0, 0])]) (c1 := 0) (s1 := 0) (c2 := 60) (s2 := 3210) (by exact rfl) ?_ (by omega) (by omega)
  refine jT_xiinc (x := 3) (z := 4) (LN := [(5, (0, 4)), (4, (4, 23)), (0, (4, 0)), (1, (4, 1)), (2, (1, 1))]) (pcN := 32) jIS_216_29 rfl rfl (by decide) rfl rfl ?_
  refine jT_xgoto (pcN := 9) jIS_216_32 rfl ?_
  refine jT_xiload (v := (0, 4)) (pcN := 11) jIS_216_9 rfl rfl rfl ?_
  refine jT_xbipush (k := 6) (pcN := 13) jIS_216_11 (by decide) rfl ?_
  refine jT_xicF (t := 35) (pcN := 16) jIS_216_13 rfl (by decide +kernel) rfl rfl ?_
  refine jT_xaload (v := (4, 23)) (pcN := 18) jIS_216_16 rfl rfl rfl ?_
  refine jT_xiload (v := (0, 4)) (pcN := 20) jIS_216_18 rfl rfl rfl ?_
  refine jT_adv 1 (pcN := 23) (LN := [(5, (0, 4)), (4, (4, 23)), (0, (4, 0)), (1, (4, 1)), (2, (1, 1))]) (stN := [(1, 2), (0, 4), (4, 23)]) (hsN := [jzS_251, (101, [], [0, 0, 0, 0, 0, t]), jgh, jgh, jgh, jgh, jgh, (130, [], [17, 18, 19, 20, 21, 22]), jgh, jgh, jgh, jgh, jgh, jgh, jgh, jgh, jgh, (100, [], (jenc (jlg 0))), (100, [], (jenc (jlg 1))), (100, [], (jenc (jlg 2))), (100, [], (jenc (jlg 3))), (100, [], (jenc (jlg 4))), (100, [], (jenc (jlg 5))), (101, [], [0, 0, 0, 0, 0, 0])]) (c1 := 0) (s1 := 0) (c2 := 60) (s2 := 3210) (by exact rfl) ?_ (by omega) (by omega)
  refine jT_xaload_n (v := (4, 1)) (pcN := 24) jIS_216_23 rfl rfl rfl ?_
  refine jT_xiload (v := (0, 4)) (pcN := 26) jIS_216_24 rfl rfl rfl ?_
  refine jT_lald (x := 0) (a := 1) (j := 4) (fs := []) (X := [0, 0, 0, 0, 0, t]) jIS_216_26 rfl rfl rfl rfl ?_
  refine jT_eq (LN := [(5, (0, 4)), (4, (4, 23)), (0, (4, 0)), (1, (4, 1)), (2, (1, 1))]) (stN := [(1, 0), (1, 2), (0, 4), (4, 23)]) (hsN := [jzS_251, (101, [], [0, 0, 0, 0, 0, t]), jgh, jgh, jgh, jgh, jgh, (130, [], [17, 18, 19, 20, 21, 22]), jgh, jgh, jgh, jgh, jgh, jgh, jgh, jgh, jgh, (100, [], (jenc (jlg 0))), (100, [], (jenc (jlg 1))), (100, [], (jenc (jlg 2))), (100, [], (jenc (jlg 3))), (100, [], (jenc (jlg 4))), (100, [], (jenc (jlg 5))), (101, [], [0, 0, 0, 0, 0, 0])]) rfl rfl rfl ?_
  refine jT_xlmul (x := 2) (y := 0) (z := 0) (pcN := 28) jIS_216_27 rfl (by decide) rfl ?_
  refine jT_adv 1 (pcN := 29) (LN := [(5, (0, 4)), (4, (4, 23)), (0, (4, 0)), (1, (4, 1)), (2, (1, 1))]) (stN := []) (hsN := [jzS_251, (101, [], [0, 0, 0, 0, 0, t]), jgh, jgh, jgh, jgh, jgh, (130, [], [17, 18, 19, 20, 21, 22]), jgh, jgh, jgh, jgh, jgh, jgh, jgh, jgh, jgh, (100, [], (jenc (jlg 0))), (100, [], (jenc (jlg 1))), (100, [], (jenc (jlg 2))), (100, [], (jenc (jlg 3))), (100, [], (jenc (jlg 4))), (100, [], (jenc (jlg 5))), (101, [], [0, 0, 0, 0, 0, 0])]) (c1 := 0) (s1 := 0) (c2 := 60) (s2 := 3210) (by exact rfl) ?_ (by omega) (by omega)
  refine jT_xiinc (x := 4) (z := 5) (LN := [(5, (0, 5)), (4, (4, 23)), (0, (4, 0)), (1, (4, 1)), (2, (1, 1))]) (pcN := 32) jIS_216_29 rfl rfl (by decide) rfl rfl ?_
  refine jT_xgoto (pcN := 9) jIS_216_32 rfl ?_
  refine jT_xiload (v := (0, 5)) (pcN := 11) jIS_216_9 rfl rfl rfl ?_
  refine jT_xbipush (k := 6) (pcN := 13) jIS_216_11 (by decide) rfl ?_
  refine jT_xicF (t := 35) (pcN := 16) jIS_216_13 rfl (by decide +kernel) rfl rfl ?_
  refine jT_xaload (v := (4, 23)) (pcN := 18) jIS_216_16 rfl rfl rfl ?_
  refine jT_xiload (v := (0, 5)) (pcN := 20) jIS_216_18 rfl rfl rfl ?_
  refine jT_adv 1 (pcN := 23) (LN := [(5, (0, 5)), (4, (4, 23)), (0, (4, 0)), (1, (4, 1)), (2, (1, 1))]) (stN := [(1, 2), (0, 5), (4, 23)]) (hsN := [jzS_251, (101, [], [0, 0, 0, 0, 0, t]), jgh, jgh, jgh, jgh, jgh, (130, [], [17, 18, 19, 20, 21, 22]), jgh, jgh, jgh, jgh, jgh, jgh, jgh, jgh, jgh, (100, [], (jenc (jlg 0))), (100, [], (jenc (jlg 1))), (100, [], (jenc (jlg 2))), (100, [], (jenc (jlg 3))), (100, [], (jenc (jlg 4))), (100, [], (jenc (jlg 5))), (101, [], [0, 0, 0, 0, 0, 0])]) (c1 := 0) (s1 := 0) (c2 := 60) (s2 := 3210) (by exact rfl) ?_ (by omega) (by omega)
  refine jT_xaload_n (v := (4, 1)) (pcN := 24) jIS_216_23 rfl rfl rfl ?_
  refine jT_xiload (v := (0, 5)) (pcN := 26) jIS_216_24 rfl rfl rfl ?_
  refine jT_lald (x := t) (a := 1) (j := 5) (fs := []) (X := [0, 0, 0, 0, 0, t]) jIS_216_26 rfl rfl rfl rfl ?_
  refine jT_eq (LN := [(5, (0, 5)), (4, (4, 23)), (0, (4, 0)), (1, (4, 1)), (2, (1, 1))]) (stN := [(1, t), (1, 2), (0, 5), (4, 23)]) (hsN := [jzS_251, (101, [], [0, 0, 0, 0, 0, t]), jgh, jgh, jgh, jgh, jgh, (130, [], [17, 18, 19, 20, 21, 22]), jgh, jgh, jgh, jgh, jgh, jgh, jgh, jgh, jgh, (100, [], (jenc (jlg 0))), (100, [], (jenc (jlg 1))), (100, [], (jenc (jlg 2))), (100, [], (jenc (jlg 3))), (100, [], (jenc (jlg 4))), (100, [], (jenc (jlg 5))), (101, [], [0, 0, 0, 0, 0, 0])]) rfl rfl rfl ?_
  refine jT_xlmul (x := 2) (y := t) (z := 2 * t) (pcN := 28) jIS_216_27 rfl (rfl) rfl ?_
  refine jT_adv 1 (pcN := 29) (LN := [(5, (0, 5)), (4, (4, 23)), (0, (4, 0)), (1, (4, 1)), (2, (1, 1))]) (stN := []) (hsN := [jzS_251, (101, [], [0, 0, 0, 0, 0, t]), jgh, jgh, jgh, jgh, jgh, (130, [], [17, 18, 19, 20, 21, 22]), jgh, jgh, jgh, jgh, jgh, jgh, jgh, jgh, jgh, (100, [], (jenc (jlg 0))), (100, [], (jenc (jlg 1))), (100, [], (jenc (jlg 2))), (100, [], (jenc (jlg 3))), (100, [], (jenc (jlg 4))), (100, [], (jenc (jlg 5))), (101, [], [0, 0, 0, 0, 0, 2 * t])]) (c1 := 0) (s1 := 0) (c2 := 60) (s2 := 3210) (by exact rfl) ?_ (by omega) (by omega)
  refine jT_xiinc (x := 5) (z := 6) (LN := [(5, (0, 6)), (4, (4, 23)), (0, (4, 0)), (1, (4, 1)), (2, (1, 1))]) (pcN := 32) jIS_216_29 rfl rfl (by decide) rfl rfl ?_
  refine jT_xgoto (pcN := 9) jIS_216_32 rfl ?_
  refine jT_xiload (v := (0, 6)) (pcN := 11) jIS_216_9 rfl rfl rfl ?_
  refine jT_xbipush (k := 6) (pcN := 13) jIS_216_11 (by decide) rfl ?_
  refine jT_xicT (pcN := 35) jIS_216_13 rfl (by decide +kernel) rfl ?_
  refine jT_xaload (v := (4, 23)) (pcN := 37) jIS_216_35 rfl rfl rfl ?_
  refine jT_xiconst (k := 0) (pcN := 38) jIS_216_37 rfl ?_
  refine jT_adv 1 (pcN := 39) (LN := [(5, (0, 6)), (4, (4, 23)), (0, (4, 0)), (1, (4, 1)), (2, (1, 1))]) (stN := [(0, 0), (4, 23), (0, 0), (4, 23)]) (hsN := [jzS_251, (101, [], [0, 0, 0, 0, 0, t]), jgh, jgh, jgh, jgh, jgh, (130, [], [17, 18, 19, 20, 21, 22]), jgh, jgh, jgh, jgh, jgh, jgh, jgh, jgh, jgh, (100, [], (jenc (jlg 0))), (100, [], (jenc (jlg 1))), (100, [], (jenc (jlg 2))), (100, [], (jenc (jlg 3))), (100, [], (jenc (jlg 4))), (100, [], (jenc (jlg 5))), (101, [], [0, 0, 0, 0, 0, 2 * t])]) (c1 := 0) (s1 := 0) (c2 := 60) (s2 := 3210) (by exact rfl) ?_ (by omega) (by omega)
  refine jT_lald (x := 0) (a := 23) (j := 0) (fs := []) (X := [0, 0, 0, 0, 0, 2 * t]) jIS_216_39 rfl rfl rfl rfl ?_
  refine jT_eq (LN := [(5, (0, 6)), (4, (4, 23)), (0, (4, 0)), (1, (4, 1)), (2, (1, 1))]) (stN := [(1, 0), (0, 0), (4, 23)]) (hsN := [jzS_251, (101, [], [0, 0, 0, 0, 0, t]), jgh, jgh, jgh, jgh, jgh, (130, [], [17, 18, 19, 20, 21, 22]), jgh, jgh, jgh, jgh, jgh, jgh, jgh, jgh, jgh, (100, [], (jenc (jlg 0))), (100, [], (jenc (jlg 1))), (100, [], (jenc (jlg 2))), (100, [], (jenc (jlg 3))), (100, [], (jenc (jlg 4))), (100, [], (jenc (jlg 5))), (101, [], [0, 0, 0, 0, 0, 2 * t])]) rfl rfl rfl ?_
  refine jT_xlload_n (v := (1, 1)) (pcN := 41) jIS_216_40 rfl rfl rfl ?_
  refine jT_xladd (x := 0) (y := 1) (z := 1) (pcN := 42) jIS_216_41 rfl (by decide) rfl ?_
  refine jT_adv 1 (pcN := 43) (LN := [(5, (0, 6)), (4, (4, 23)), (0, (4, 0)), (1, (4, 1)), (2, (1, 1))]) (stN := []) (hsN := [jzS_251, (101, [], [0, 0, 0, 0, 0, t]), jgh, jgh, jgh, jgh, jgh, (130, [], [17, 18, 19, 20, 21, 22]), jgh, jgh, jgh, jgh, jgh, jgh, jgh, jgh, jgh, (100, [], (jenc (jlg 0))), (100, [], (jenc (jlg 1))), (100, [], (jenc (jlg 2))), (100, [], (jenc (jlg 3))), (100, [], (jenc (jlg 4))), (100, [], (jenc (jlg 5))), (101, [], [1, 0, 0, 0, 0, 2 * t])]) (c1 := 0) (s1 := 0) (c2 := 60) (s2 := 3210) (by exact rfl) ?_ (by omega) (by omega)
  refine jT_xaload_n (v := (4, 0)) (pcN := 44) jIS_216_43 rfl rfl rfl ?_
  refine jT_xaload (v := (4, 23)) (pcN := 46) jIS_216_44 rfl rfl rfl ?_
  refine jT_adv 1 (pcN := 49) (LN := [(5, (0, 6)), (4, (4, 23)), (0, (4, 0)), (1, (4, 1)), (2, (1, 1))]) (stN := [(1, 2), (4, 23), (4, 0)]) (hsN := [jzS_251, (101, [], [0, 0, 0, 0, 0, t]), jgh, jgh, jgh, jgh, jgh, (130, [], [17, 18, 19, 20, 21, 22]), jgh, jgh, jgh, jgh, jgh, jgh, jgh, jgh, jgh, (100, [], (jenc (jlg 0))), (100, [], (jenc (jlg 1))), (100, [], (jenc (jlg 2))), (100, [], (jenc (jlg 3))), (100, [], (jenc (jlg 4))), (100, [], (jenc (jlg 5))), (101, [], [1, 0, 0, 0, 0, 2 * t])]) (c1 := 0) (s1 := 0) (c2 := 60) (s2 := 3210) (by exact rfl) ?_ (by omega) (by omega)
  refine jT_xlload_n (v := (1, 1)) (pcN := 50) jIS_216_49 rfl rfl rfl ?_
  refine jT_xlmul (x := 2) (y := 1) (z := 2) (pcN := 51) jIS_216_50 rfl (by decide) rfl ?_
  refine jT_callA [0, 23, 2, 3, 4, 5, 6, 7, 8, 9, 10, 11, 12, 13, 14, 15, 16, 17, 18, 19, 20, 21, 22] (y := 210) (pcN := 54) (dC := 5) (bc1 := 60) (bc2 := 3210) (c1 := 0) (c2 := 0) (as := [(4, 0), (4, 23), (1, 2)]) (asC := [(4, 0), (4, 1), (1, 2)]) (LN := [(5, (0, 6)), (4, (4, 23)), (0, (4, 0)), (1, (4, 1)), (2, (1, 1))]) (stN := []) (hsC := [jzS_251, (101, [], [1, 0, 0, 0, 0, 2 * t]), jgh, jgh, jgh, jgh, jgh, (130, [], [17, 18, 19, 20, 21, 22]), jgh, jgh, jgh, jgh, jgh, jgh, jgh, jgh, jgh, (100, [], (jenc (jlg 0))), (100, [], (jenc (jlg 1))), (100, [], (jenc (jlg 2))), (100, [], (jenc (jlg 3))), (100, [], (jenc (jlg 4))), (100, [], (jenc (jlg 5)))]) (ex := []) (v := (1, jbp5 t)) (st2 := [(1, jbp5 t)]) (hs2 := [jzS_251, (101, [], [0, 0, 0, 0, 0, t]), jgh, jgh, jgh, jgh, jgh, (130, [], [17, 18, 19, 20, 21, 22]), jgh, jgh, jgh, jgh, jgh, jgh, jgh, jgh, jgh, (100, [], (jenc (jlg 0))), (100, [], (jenc (jlg 1))), (100, [], (jenc (jlg 2))), (100, [], (jenc (jlg 3))), (100, [], (jenc (jlg 4))), (100, [], (jenc (jlg 5))), (101, [], [1, 0, 0, 0, 0, 2 * t])]) (jSl_ps_233 (d := 0) (by omega)) (by rfl) (by rfl) (by rfl) (by rfl) ⟨rfl, rfl, rfl, rfl, rfl, rfl, rfl, rfl, rfl, rfl, rfl, rfl, rfl, rfl, rfl, rfl, rfl, rfl, rfl, rfl, rfl, rfl, rfl, trivial⟩ (by rfl) (by rfl) (by omega) (by show 23 ≤ 24; omega) (by omega) (by omega) rfl rfl ?_
  have hb_q1 := jbp_b5 (p := t) (by omega)
  generalize hq_q1 : jbp5 t = q1 at hb_q1 ⊢
  refine jT_loc (LN := [(5, (0, 6))]) (by show List.Nodup [5]; decide) (by intro q hq; simp only [List.mem_cons, List.not_mem_nil, or_false] at hq; rcases hq with rfl <;> rfl) ?_
  refine jT_drop 23 (hs0 := [jzS_251, (101, [], [0, 0, 0, 0, 0, t]), jgh, jgh, jgh, jgh, jgh, (130, [], [17, 18, 19, 20, 21, 22]), jgh, jgh, jgh, jgh, jgh, jgh, jgh, jgh, jgh, (100, [], (jenc (jlg 0))), (100, [], (jenc (jlg 1))), (100, [], (jenc (jlg 2))), (100, [], (jenc (jlg 3))), (100, [], (jenc (jlg 4))), (100, [], (jenc (jlg 5)))]) (ex := [(101, [], [1, 0, 0, 0, 0, 2 * t])]) rfl rfl rfl (by decide) ?_
  subst hq_q1
  exact jT_ret rfl (by decide) (by show 23 ≤ 23; omega) (by omega) (by omega) ⟨rfl, rfl, rfl⟩
theorem jS_297_235 {xs : List Int} {d : Nat} {t : Int} (h_t : 1 ≤ t ∧ t ≤ 60) (g_0 : t - 61 < 0) : jT xs (d + 7) 297 22 0 [(0, (4, 0)), (1, (0, t)), (2, (0, 5))] [] jpS_447 62 3222 (fun k v hsN => k = 0 ∧ v = (0, jbp5 t) ∧ hsN = jpS_447 ++ []) := by
  refine jT_xbipush (k := 6) (pcN := 2) jIS_297_0 (by decide) rfl ?_
  refine jT_adv 1 (pcN := 4) (LN := [(0, (4, 0)), (1, (0, t)), (2, (0, 5))]) (stN := [(4, 22)]) (hsN := jpS_437) (c1 := 1) (s1 := 6) (c2 := 61) (s2 := 3216) (by exact rfl) ?_ (by omega) (by omega)
  refine jT_xastore_n (v := (4, 22)) (LN := [(3, (4, 22)), (0, (4, 0)), (1, (0, t)), (2, (0, 5))]) (pcN := 5) jIS_297_4 rfl rfl rfl rfl ?_
  refine jT_xaload_n (v := (4, 22)) (pcN := 6) jIS_297_5 rfl rfl rfl ?_
  refine jT_xiload_n (v := (0, 5)) (pcN := 7) jIS_297_6 rfl rfl rfl ?_
  refine jT_xiload_n (v := (0, t)) (pcN := 8) jIS_297_7 rfl rfl rfl ?_
  refine jT_xi2l (x := t) (z := t) (pcN := 9) jIS_297_8 rfl (jw_idd (by omega) (by omega)) rfl ?_
  refine jT_adv 1 (pcN := 10) (LN := [(3, (4, 22)), (0, (4, 0)), (1, (0, t)), (2, (0, 5))]) (stN := []) (hsN := [jzS_244, jgh, jgh, jgh, jgh, jgh, (130, [], [16, 17, 18, 19, 20, 21]), jgh, jgh, jgh, jgh, jgh, jgh, jgh, jgh, jgh, (100, [], (jenc (jlg 0))), (100, [], (jenc (jlg 1))), (100, [], (jenc (jlg 2))), (100, [], (jenc (jlg 3))), (100, [], (jenc (jlg 4))), (100, [], (jenc (jlg 5))), (101, [], [0, 0, 0, 0, 0, t])]) (c1 := 0) (s1 := 0) (c2 := 61) (s2 := 3216) (by exact rfl) ?_ (by omega) (by omega)
  refine jT_xaload_n (v := (4, 0)) (pcN := 11) jIS_297_10 rfl rfl rfl ?_
  refine jT_xaload_n (v := (4, 22)) (pcN := 12) jIS_297_11 rfl rfl rfl ?_
  refine jT_xlconst (z := 1) (pcN := 13) jIS_297_12 rfl rfl ?_
  refine jT_callA [0, 22, 1, 2, 3, 4, 5, 6, 7, 8, 9, 10, 11, 12, 13, 14, 15, 16, 17, 18, 19, 20, 21] (y := 216) (pcN := 16) (dC := 6) (bc1 := 61) (bc2 := 3216) (c1 := 0) (c2 := 0) (as := [(4, 0), (4, 22), (1, 1)]) (asC := [(4, 0), (4, 1), (1, 1)]) (LN := [(3, (4, 22)), (0, (4, 0)), (1, (0, t)), (2, (0, 5))]) (stN := []) (hsC := [jzS_251, (101, [], [0, 0, 0, 0, 0, t]), jgh, jgh, jgh, jgh, jgh, (130, [], [17, 18, 19, 20, 21, 22]), jgh, jgh, jgh, jgh, jgh, jgh, jgh, jgh, jgh, (100, [], (jenc (jlg 0))), (100, [], (jenc (jlg 1))), (100, [], (jenc (jlg 2))), (100, [], (jenc (jlg 3))), (100, [], (jenc (jlg 4))), (100, [], (jenc (jlg 5)))]) (ex := []) (v := (1, jbp5 t)) (st2 := [(1, jbp5 t)]) (hs2 := [jzS_244, jgh, jgh, jgh, jgh, jgh, (130, [], [16, 17, 18, 19, 20, 21]), jgh, jgh, jgh, jgh, jgh, jgh, jgh, jgh, jgh, (100, [], (jenc (jlg 0))), (100, [], (jenc (jlg 1))), (100, [], (jenc (jlg 2))), (100, [], (jenc (jlg 3))), (100, [], (jenc (jlg 4))), (100, [], (jenc (jlg 5))), (101, [], [0, 0, 0, 0, 0, t])]) (jS_216_234 (d := 0) (by omega) (by omega)) (by rfl) (by rfl) (by rfl) (by rfl) ⟨rfl, rfl, rfl, rfl, rfl, rfl, rfl, rfl, rfl, rfl, rfl, rfl, rfl, rfl, rfl, rfl, rfl, rfl, rfl, rfl, rfl, rfl, rfl, trivial⟩ (by rfl) (by rfl) (by omega) (by show 22 ≤ 23; omega) (by omega) (by omega) rfl rfl ?_
  have hb_q1 := jbp_b5 (p := t) (by omega)
  generalize hq_q1 : jbp5 t = q1 at hb_q1 ⊢
  refine jT_xl2i (pcN := 17) jIS_297_16 rfl rfl ?_
  refine jT_loc (LN := [(0, (4, 0))]) (by show List.Nodup [0]; decide) (by intro q hq; simp only [List.mem_cons, List.not_mem_nil, or_false] at hq; rcases hq with rfl <;> rfl) ?_
  refine jT_drop 22 (hs0 := jpS_447) (ex := [(101, [], [0, 0, 0, 0, 0, t])]) rfl rfl rfl (by decide) ?_
  subst hq_q1
  exact jT_ret rfl (by decide) (by show 22 ≤ 22; omega) (by omega) (by omega) ⟨rfl, rfl, rfl⟩
theorem jIS_325_0 : jmI (jm 325) 0 = (.iconst 0, 1) := by rfl
theorem jIS_325_1 : jmI (jm 325) 1 = (.istore 4, 2) := by rfl
theorem jIS_325_3 : jmI (jm 325) 3 = (.iconst 0, 1) := by rfl
theorem jIS_325_4 : jmI (jm 325) 4 = (.istore 5, 2) := by rfl
theorem jIS_325_6 : jmI (jm 325) 6 = (.iconst 0, 1) := by rfl
theorem jIS_325_7 : jmI (jm 325) 7 = (.istore 6, 2) := by rfl
theorem jIS_325_9 : jmI (jm 325) 9 = (.iconst 0, 1) := by rfl
theorem jIS_325_10 : jmI (jm 325) 10 = (.istore 7, 2) := by rfl
theorem jIS_325_12 : jmI (jm 325) 12 = (.iload 7, 2) := by rfl
theorem jIS_325_14 : jmI (jm 325) 14 = (.bipush 6, 2) := by rfl
theorem jIS_325_16 : jmI (jm 325) 16 = (.if_icmp .ge 88, 3) := by rfl
theorem jIS_325_19 : jmI (jm 325) 19 = (.iload 4, 2) := by rfl
theorem jIS_325_21 : jmI (jm 325) 21 = (.aload_n 0, 1) := by rfl
theorem jIS_325_22 : jmI (jm 325) 22 = (.getfield 9, 3) := by rfl
theorem jIS_325_25 : jmI (jm 325) 25 = (.bipush 7, 2) := by rfl
theorem jIS_325_27 : jmI (jm 325) 27 = (.iload_n 1, 1) := by rfl
theorem jIS_325_28 : jmI (jm 325) 28 = (.imul, 1) := by rfl
theorem jIS_325_29 : jmI (jm 325) 29 = (.iload 7, 2) := by rfl
theorem jIS_325_31 : jmI (jm 325) 31 = (.iadd, 1) := by rfl
theorem jIS_325_32 : jmI (jm 325) 32 = (.iaload, 1) := by rfl
theorem jIS_325_33 : jmI (jm 325) 33 = (.aload_n 3, 1) := by rfl
theorem jIS_325_34 : jmI (jm 325) 34 = (.iload 7, 2) := by rfl
theorem jIS_325_36 : jmI (jm 325) 36 = (.iaload, 1) := by rfl
theorem jIS_325_37 : jmI (jm 325) 37 = (.imul, 1) := by rfl
theorem jIS_325_38 : jmI (jm 325) 38 = (.iadd, 1) := by rfl
theorem jIS_325_39 : jmI (jm 325) 39 = (.istore 4, 2) := by rfl
theorem jIS_325_41 : jmI (jm 325) 41 = (.iload 5, 2) := by rfl
theorem jIS_325_43 : jmI (jm 325) 43 = (.aload_n 0, 1) := by rfl
theorem jIS_325_44 : jmI (jm 325) 44 = (.getfield 9, 3) := by rfl
theorem jIS_325_47 : jmI (jm 325) 47 = (.bipush 7, 2) := by rfl
theorem jIS_325_49 : jmI (jm 325) 49 = (.iload_n 2, 1) := by rfl
theorem jIS_325_50 : jmI (jm 325) 50 = (.imul, 1) := by rfl
theorem jIS_325_51 : jmI (jm 325) 51 = (.iload 7, 2) := by rfl
theorem jIS_325_53 : jmI (jm 325) 53 = (.iadd, 1) := by rfl
theorem jIS_325_54 : jmI (jm 325) 54 = (.iaload, 1) := by rfl
theorem jIS_325_55 : jmI (jm 325) 55 = (.aload_n 3, 1) := by rfl
theorem jIS_325_56 : jmI (jm 325) 56 = (.iload 7, 2) := by rfl
theorem jIS_325_58 : jmI (jm 325) 58 = (.iaload, 1) := by rfl
theorem jIS_325_59 : jmI (jm 325) 59 = (.imul, 1) := by rfl
theorem jIS_325_60 : jmI (jm 325) 60 = (.iadd, 1) := by rfl
theorem jIS_325_61 : jmI (jm 325) 61 = (.istore 5, 2) := by rfl
theorem jIS_325_63 : jmI (jm 325) 63 = (.iload 6, 2) := by rfl
theorem jIS_325_65 : jmI (jm 325) 65 = (.aload_n 0, 1) := by rfl
theorem jIS_325_66 : jmI (jm 325) 66 = (.getfield 9, 3) := by rfl
theorem jIS_325_69 : jmI (jm 325) 69 = (.bipush 7, 2) := by rfl
theorem jIS_325_71 : jmI (jm 325) 71 = (.iload_n 1, 1) := by rfl
theorem jIS_325_72 : jmI (jm 325) 72 = (.imul, 1) := by rfl
theorem jIS_325_73 : jmI (jm 325) 73 = (.iload 7, 2) := by rfl
theorem jIS_325_75 : jmI (jm 325) 75 = (.iadd, 1) := by rfl
theorem jIS_325_76 : jmI (jm 325) 76 = (.iaload, 1) := by rfl
theorem jIS_325_77 : jmI (jm 325) 77 = (.aload_n 0, 1) := by rfl
theorem jIS_325_78 : jmI (jm 325) 78 = (.getfield 9, 3) := by rfl
theorem jIS_325_81 : jmI (jm 325) 81 = (.bipush 7, 2) := by rfl
theorem jIS_325_83 : jmI (jm 325) 83 = (.iload_n 2, 1) := by rfl
theorem jIS_325_84 : jmI (jm 325) 84 = (.imul, 1) := by rfl
theorem jIS_325_85 : jmI (jm 325) 85 = (.iload 7, 2) := by rfl
theorem jIS_325_87 : jmI (jm 325) 87 = (.iadd, 1) := by rfl
theorem jIS_325_88 : jmI (jm 325) 88 = (.iaload, 1) := by rfl
theorem jIS_325_89 : jmI (jm 325) 89 = (.iadd, 1) := by rfl
theorem jIS_325_90 : jmI (jm 325) 90 = (.aload_n 3, 1) := by rfl
theorem jIS_325_91 : jmI (jm 325) 91 = (.iload 7, 2) := by rfl
theorem jIS_325_93 : jmI (jm 325) 93 = (.iaload, 1) := by rfl
theorem jIS_325_94 : jmI (jm 325) 94 = (.imul, 1) := by rfl
theorem jIS_325_95 : jmI (jm 325) 95 = (.iadd, 1) := by rfl
theorem jIS_325_96 : jmI (jm 325) 96 = (.istore 6, 2) := by rfl
theorem jIS_325_98 : jmI (jm 325) 98 = (.iinc 7 1, 3) := by rfl
theorem jIS_325_101 : jmI (jm 325) 101 = (.goto (-89), 3) := by rfl
theorem jIS_325_104 : jmI (jm 325) 104 = (.iload 6, 2) := by rfl
theorem jIS_325_106 : jmI (jm 325) 106 = (.iload 4, 2) := by rfl
theorem jIS_325_108 : jmI (jm 325) 108 = (.iload 5, 2) := by rfl
theorem jIS_325_110 : jmI (jm 325) 110 = (.iadd, 1) := by rfl
theorem jIS_325_111 : jmI (jm 325) 111 = (.if_icmp .ne 7, 3) := by rfl
theorem jIS_325_114 : jmI (jm 325) 114 = (.iconst 1, 1) := by rfl
theorem jIS_325_115 : jmI (jm 325) 115 = (.goto 4, 3) := by rfl
theorem jS_325_236 {xs : List Int} {d : Nat} {k394_0 k394_1 k394_2 k394_3 k394_4 k394_5 t y4 : Int} (h_k394_0 : 1 ≤ k394_0 ∧ k394_0 ≤ 4001) (h_k394_1 : 1 ≤ k394_1 ∧ k394_1 ≤ 4001) (h_k394_2 : 1 ≤ k394_2 ∧ k394_2 ≤ 4001) (h_k394_3 : 1 ≤ k394_3 ∧ k394_3 ≤ 4001) (h_k394_4 : 1 ≤ k394_4 ∧ k394_4 ≤ 4001) (h_k394_5 : 1 ≤ k394_5 ∧ k394_5 ≤ 4001) (h_t : 0 ≤ t ∧ t ≤ 7) (h_y4 : 0 ≤ y4 ∧ y4 ≤ 7) (g_0 : t - 8 < 0) : jT xs d 325 17 0 [(0, (4, 0)), (1, (0, y4)), (2, (0, t)), (3, (4, 1))] [] [jzS_251, (100, [], [k394_0, k394_1, k394_2, k394_3, k394_4, k394_5]), (100, [], jS0), jgh, jgh, jgh, jgh, jgh, jgh, jgh, jgh, jgh, jgh, jgh, jgh, jgh, jgh] 0 0 (fun k v hsN => k = 0 ∧ v = (0, 1) ∧ hsN = [jzS_251, (100, [], [k394_0, k394_1, k394_2, k394_3, k394_4, k394_5]), (100, [], jS0), jgh, jgh, jgh, jgh, jgh, jgh, jgh, jgh, jgh, jgh, jgh, jgh, jgh, jgh] ++ []) := by
  refine jT_xiconst (k := 0) (pcN := 1) jIS_325_0 rfl ?_
  refine jT_xistore (v := (0, 0)) (LN := [(4, (0, 0)), (0, (4, 0)), (1, (0, y4)), (2, (0, t)), (3, (4, 1))]) (pcN := 3) jIS_325_1 rfl rfl rfl rfl ?_
  refine jT_xiconst (k := 0) (pcN := 4) jIS_325_3 rfl ?_
  refine jT_xistore (v := (0, 0)) (LN := [(5, (0, 0)), (4, (0, 0)), (0, (4, 0)), (1, (0, y4)), (2, (0, t)), (3, (4, 1))]) (pcN := 6) jIS_325_4 rfl rfl rfl rfl ?_
  refine jT_xiconst (k := 0) (pcN := 7) jIS_325_6 rfl ?_
  refine jT_xistore (v := (0, 0)) (LN := [(6, (0, 0)), (5, (0, 0)), (4, (0, 0)), (0, (4, 0)), (1, (0, y4)), (2, (0, t)), (3, (4, 1))]) (pcN := 9) jIS_325_7 rfl rfl rfl rfl ?_
  refine jT_xiconst (k := 0) (pcN := 10) jIS_325_9 rfl ?_
  refine jT_xistore (v := (0, 0)) (LN := [(7, (0, 0)), (6, (0, 0)), (5, (0, 0)), (4, (0, 0)), (0, (4, 0)), (1, (0, y4)), (2, (0, t)), (3, (4, 1))]) (pcN := 12) jIS_325_10 rfl rfl rfl rfl ?_
  refine jT_xiload (v := (0, 0)) (pcN := 14) jIS_325_12 rfl rfl rfl ?_
  refine jT_xbipush (k := 6) (pcN := 16) jIS_325_14 (by decide) rfl ?_
  refine jT_xicF (t := 104) (pcN := 19) jIS_325_16 rfl (by decide +kernel) rfl rfl ?_
  refine jT_xiload (v := (0, 0)) (pcN := 21) jIS_325_19 rfl rfl rfl ?_
  refine jT_xaload_n (v := (4, 0)) (pcN := 22) jIS_325_21 rfl rfl rfl ?_
  refine jT_xgetf (a := 0) (t := 1) (ci := 14) (fi := 1) (c := jzS_251) (v := (4, 2)) (pcN := 25) jIS_325_22 rfl rfl rfl rfl rfl rfl rfl ?_
  refine jT_xbipush (k := 7) (pcN := 27) jIS_325_25 (by decide) rfl ?_
  refine jT_xiload_n (v := (0, y4)) (pcN := 28) jIS_325_27 rfl rfl rfl ?_
  refine jT_ximul (x := 7) (y := y4) (z := 7 * y4) (pcN := 29) jIS_325_28 rfl (rfl) rfl ?_
  refine jT_xiload (v := (0, 0)) (pcN := 31) jIS_325_29 rfl rfl rfl ?_
  refine jT_xiadd (x := 7 * y4) (y := 0) (z := 7 * y4) (pcN := 32) jIS_325_31 rfl (by omega) rfl ?_
  refine jT_iald (x := 0) (a := 2) (j := (7 * y4).toNat) (fs := []) (X := jS0) (by rfl) (by rfl) (by rfl) (jw_nn (by omega) (by omega)) (jS0_r0 (by omega) (by omega)) ?_
  refine jT_eq (LN := [(7, (0, 0)), (6, (0, 0)), (5, (0, 0)), (4, (0, 0)), (0, (4, 0)), (1, (0, y4)), (2, (0, t)), (3, (4, 1))]) (stN := [(0, 0), (0, 0)]) (hsN := [jzS_251, (100, [], [k394_0, k394_1, k394_2, k394_3, k394_4, k394_5]), (100, [], jS0), jgh, jgh, jgh, jgh, jgh, jgh, jgh, jgh, jgh, jgh, jgh, jgh, jgh, jgh]) rfl rfl rfl ?_
  refine jT_xaload_n (v := (4, 1)) (pcN := 34) jIS_325_33 rfl rfl rfl ?_
  refine jT_xiload (v := (0, 0)) (pcN := 36) jIS_325_34 rfl rfl rfl ?_
  refine jT_iald (x := k394_0) (a := 1) (j := 0) (fs := []) (X := [k394_0, k394_1, k394_2, k394_3, k394_4, k394_5]) jIS_325_36 rfl rfl rfl rfl ?_
  refine jT_eq (LN := [(7, (0, 0)), (6, (0, 0)), (5, (0, 0)), (4, (0, 0)), (0, (4, 0)), (1, (0, y4)), (2, (0, t)), (3, (4, 1))]) (stN := [(0, k394_0), (0, 0), (0, 0)]) (hsN := [jzS_251, (100, [], [k394_0, k394_1, k394_2, k394_3, k394_4, k394_5]), (100, [], jS0), jgh, jgh, jgh, jgh, jgh, jgh, jgh, jgh, jgh, jgh, jgh, jgh, jgh, jgh]) rfl rfl rfl ?_
  refine jT_ximul (x := 0) (y := k394_0) (z := 0) (pcN := 38) jIS_325_37 rfl (by omega) rfl ?_
  refine jT_xiadd (x := 0) (y := 0) (z := 0) (pcN := 39) jIS_325_38 rfl (by decide) rfl ?_
  refine jT_xistore (v := (0, 0)) (LN := [(4, (0, 0)), (7, (0, 0)), (6, (0, 0)), (5, (0, 0)), (0, (4, 0)), (1, (0, y4)), (2, (0, t)), (3, (4, 1))]) (pcN := 41) jIS_325_39 rfl rfl rfl rfl ?_
  refine jT_xiload (v := (0, 0)) (pcN := 43) jIS_325_41 rfl rfl rfl ?_
  refine jT_xaload_n (v := (4, 0)) (pcN := 44) jIS_325_43 rfl rfl rfl ?_
  refine jT_xgetf (a := 0) (t := 1) (ci := 14) (fi := 1) (c := jzS_251) (v := (4, 2)) (pcN := 47) jIS_325_44 rfl rfl rfl rfl rfl rfl rfl ?_
  refine jT_xbipush (k := 7) (pcN := 49) jIS_325_47 (by decide) rfl ?_
  refine jT_xiload_n (v := (0, t)) (pcN := 50) jIS_325_49 rfl rfl rfl ?_
  refine jT_ximul (x := 7) (y := t) (z := 7 * t) (pcN := 51) jIS_325_50 rfl (rfl) rfl ?_
  refine jT_xiload (v := (0, 0)) (pcN := 53) jIS_325_51 rfl rfl rfl ?_
  refine jT_xiadd (x := 7 * t) (y := 0) (z := 7 * t) (pcN := 54) jIS_325_53 rfl (by omega) rfl ?_
  refine jT_iald (x := 0) (a := 2) (j := (7 * t).toNat) (fs := []) (X := jS0) (by rfl) (by rfl) (by rfl) (jw_nn (by omega) (by omega)) (jS0_r0 (by omega) (by omega)) ?_
  refine jT_eq (LN := [(4, (0, 0)), (7, (0, 0)), (6, (0, 0)), (5, (0, 0)), (0, (4, 0)), (1, (0, y4)), (2, (0, t)), (3, (4, 1))]) (stN := [(0, 0), (0, 0)]) (hsN := [jzS_251, (100, [], [k394_0, k394_1, k394_2, k394_3, k394_4, k394_5]), (100, [], jS0), jgh, jgh, jgh, jgh, jgh, jgh, jgh, jgh, jgh, jgh, jgh, jgh, jgh, jgh]) rfl rfl rfl ?_
  refine jT_xaload_n (v := (4, 1)) (pcN := 56) jIS_325_55 rfl rfl rfl ?_
  refine jT_xiload (v := (0, 0)) (pcN := 58) jIS_325_56 rfl rfl rfl ?_
  refine jT_iald (x := k394_0) (a := 1) (j := 0) (fs := []) (X := [k394_0, k394_1, k394_2, k394_3, k394_4, k394_5]) jIS_325_58 rfl rfl rfl rfl ?_
  refine jT_eq (LN := [(4, (0, 0)), (7, (0, 0)), (6, (0, 0)), (5, (0, 0)), (0, (4, 0)), (1, (0, y4)), (2, (0, t)), (3, (4, 1))]) (stN := [(0, k394_0), (0, 0), (0, 0)]) (hsN := [jzS_251, (100, [], [k394_0, k394_1, k394_2, k394_3, k394_4, k394_5]), (100, [], jS0), jgh, jgh, jgh, jgh, jgh, jgh, jgh, jgh, jgh, jgh, jgh, jgh, jgh, jgh]) rfl rfl rfl ?_
  refine jT_ximul (x := 0) (y := k394_0) (z := 0) (pcN := 60) jIS_325_59 rfl (by omega) rfl ?_
  refine jT_xiadd (x := 0) (y := 0) (z := 0) (pcN := 61) jIS_325_60 rfl (by decide) rfl ?_
  refine jT_xistore (v := (0, 0)) (LN := [(5, (0, 0)), (4, (0, 0)), (7, (0, 0)), (6, (0, 0)), (0, (4, 0)), (1, (0, y4)), (2, (0, t)), (3, (4, 1))]) (pcN := 63) jIS_325_61 rfl rfl rfl rfl ?_
  refine jT_xiload (v := (0, 0)) (pcN := 65) jIS_325_63 rfl rfl rfl ?_
  refine jT_xaload_n (v := (4, 0)) (pcN := 66) jIS_325_65 rfl rfl rfl ?_
  refine jT_xgetf (a := 0) (t := 1) (ci := 14) (fi := 1) (c := jzS_251) (v := (4, 2)) (pcN := 69) jIS_325_66 rfl rfl rfl rfl rfl rfl rfl ?_
  refine jT_xbipush (k := 7) (pcN := 71) jIS_325_69 (by decide) rfl ?_
  refine jT_xiload_n (v := (0, y4)) (pcN := 72) jIS_325_71 rfl rfl rfl ?_
  refine jT_ximul (x := 7) (y := y4) (z := 7 * y4) (pcN := 73) jIS_325_72 rfl (rfl) rfl ?_
  refine jT_xiload (v := (0, 0)) (pcN := 75) jIS_325_73 rfl rfl rfl ?_
  refine jT_xiadd (x := 7 * y4) (y := 0) (z := 7 * y4) (pcN := 76) jIS_325_75 rfl (by omega) rfl ?_
  refine jT_iald (x := 0) (a := 2) (j := (7 * y4).toNat) (fs := []) (X := jS0) (by rfl) (by rfl) (by rfl) (jw_nn (by omega) (by omega)) (jS0_r0 (by omega) (by omega)) ?_
  refine jT_eq (LN := [(5, (0, 0)), (4, (0, 0)), (7, (0, 0)), (6, (0, 0)), (0, (4, 0)), (1, (0, y4)), (2, (0, t)), (3, (4, 1))]) (stN := [(0, 0), (0, 0)]) (hsN := [jzS_251, (100, [], [k394_0, k394_1, k394_2, k394_3, k394_4, k394_5]), (100, [], jS0), jgh, jgh, jgh, jgh, jgh, jgh, jgh, jgh, jgh, jgh, jgh, jgh, jgh, jgh]) rfl rfl rfl ?_
  refine jT_xaload_n (v := (4, 0)) (pcN := 78) jIS_325_77 rfl rfl rfl ?_
  refine jT_xgetf (a := 0) (t := 1) (ci := 14) (fi := 1) (c := jzS_251) (v := (4, 2)) (pcN := 81) jIS_325_78 rfl rfl rfl rfl rfl rfl rfl ?_
  refine jT_xbipush (k := 7) (pcN := 83) jIS_325_81 (by decide) rfl ?_
  refine jT_xiload_n (v := (0, t)) (pcN := 84) jIS_325_83 rfl rfl rfl ?_
  refine jT_ximul (x := 7) (y := t) (z := 7 * t) (pcN := 85) jIS_325_84 rfl (rfl) rfl ?_
  refine jT_xiload (v := (0, 0)) (pcN := 87) jIS_325_85 rfl rfl rfl ?_
  refine jT_xiadd (x := 7 * t) (y := 0) (z := 7 * t) (pcN := 88) jIS_325_87 rfl (by omega) rfl ?_
  refine jT_iald (x := 0) (a := 2) (j := (7 * t).toNat) (fs := []) (X := jS0) (by rfl) (by rfl) (by rfl) (jw_nn (by omega) (by omega)) (jS0_r0 (by omega) (by omega)) ?_
  refine jT_eq (LN := [(5, (0, 0)), (4, (0, 0)), (7, (0, 0)), (6, (0, 0)), (0, (4, 0)), (1, (0, y4)), (2, (0, t)), (3, (4, 1))]) (stN := [(0, 0), (0, 0), (0, 0)]) (hsN := [jzS_251, (100, [], [k394_0, k394_1, k394_2, k394_3, k394_4, k394_5]), (100, [], jS0), jgh, jgh, jgh, jgh, jgh, jgh, jgh, jgh, jgh, jgh, jgh, jgh, jgh, jgh]) rfl rfl rfl ?_
  refine jT_xiadd (x := 0) (y := 0) (z := 0) (pcN := 90) jIS_325_89 rfl (by decide) rfl ?_
  refine jT_xaload_n (v := (4, 1)) (pcN := 91) jIS_325_90 rfl rfl rfl ?_
  refine jT_xiload (v := (0, 0)) (pcN := 93) jIS_325_91 rfl rfl rfl ?_
  refine jT_iald (x := k394_0) (a := 1) (j := 0) (fs := []) (X := [k394_0, k394_1, k394_2, k394_3, k394_4, k394_5]) jIS_325_93 rfl rfl rfl rfl ?_
  refine jT_eq (LN := [(5, (0, 0)), (4, (0, 0)), (7, (0, 0)), (6, (0, 0)), (0, (4, 0)), (1, (0, y4)), (2, (0, t)), (3, (4, 1))]) (stN := [(0, k394_0), (0, 0), (0, 0)]) (hsN := [jzS_251, (100, [], [k394_0, k394_1, k394_2, k394_3, k394_4, k394_5]), (100, [], jS0), jgh, jgh, jgh, jgh, jgh, jgh, jgh, jgh, jgh, jgh, jgh, jgh, jgh, jgh]) rfl rfl rfl ?_
  refine jT_ximul (x := 0) (y := k394_0) (z := 0) (pcN := 95) jIS_325_94 rfl (by omega) rfl ?_
  refine jT_xiadd (x := 0) (y := 0) (z := 0) (pcN := 96) jIS_325_95 rfl (by decide) rfl ?_
  refine jT_xistore (v := (0, 0)) (LN := [(6, (0, 0)), (5, (0, 0)), (4, (0, 0)), (7, (0, 0)), (0, (4, 0)), (1, (0, y4)), (2, (0, t)), (3, (4, 1))]) (pcN := 98) jIS_325_96 rfl rfl rfl rfl ?_
  refine jT_xiinc (x := 0) (z := 1) (LN := [(7, (0, 1)), (6, (0, 0)), (5, (0, 0)), (4, (0, 0)), (0, (4, 0)), (1, (0, y4)), (2, (0, t)), (3, (4, 1))]) (pcN := 101) jIS_325_98 rfl rfl (by decide) rfl rfl ?_
  refine jT_xgoto (pcN := 12) jIS_325_101 rfl ?_
  refine jT_xiload (v := (0, 1)) (pcN := 14) jIS_325_12 rfl rfl rfl ?_
  refine jT_xbipush (k := 6) (pcN := 16) jIS_325_14 (by decide) rfl ?_
  refine jT_xicF (t := 104) (pcN := 19) jIS_325_16 rfl (by decide +kernel) rfl rfl ?_
  refine jT_xiload (v := (0, 0)) (pcN := 21) jIS_325_19 rfl rfl rfl ?_
  refine jT_xaload_n (v := (4, 0)) (pcN := 22) jIS_325_21 rfl rfl rfl ?_
  refine jT_xgetf (a := 0) (t := 1) (ci := 14) (fi := 1) (c := jzS_251) (v := (4, 2)) (pcN := 25) jIS_325_22 rfl rfl rfl rfl rfl rfl rfl ?_
  refine jT_xbipush (k := 7) (pcN := 27) jIS_325_25 (by decide) rfl ?_
  refine jT_xiload_n (v := (0, y4)) (pcN := 28) jIS_325_27 rfl rfl rfl ?_
  refine jT_ximul (x := 7) (y := y4) (z := 7 * y4) (pcN := 29) jIS_325_28 rfl (rfl) rfl ?_
  refine jT_xiload (v := (0, 1)) (pcN := 31) jIS_325_29 rfl rfl rfl ?_
  refine jT_xiadd (x := 7 * y4) (y := 1) (z := 7 * y4 + 1) (pcN := 32) jIS_325_31 rfl (by omega) rfl ?_
  refine jT_iald (x := 0) (a := 2) (j := (7 * y4 + 1).toNat) (fs := []) (X := jS0) (by rfl) (by rfl) (by rfl) (jw_nn (by omega) (by omega)) (jS0_r1 (by omega) (by omega)) ?_
  refine jT_eq (LN := [(7, (0, 1)), (6, (0, 0)), (5, (0, 0)), (4, (0, 0)), (0, (4, 0)), (1, (0, y4)), (2, (0, t)), (3, (4, 1))]) (stN := [(0, 0), (0, 0)]) (hsN := [jzS_251, (100, [], [k394_0, k394_1, k394_2, k394_3, k394_4, k394_5]), (100, [], jS0), jgh, jgh, jgh, jgh, jgh, jgh, jgh, jgh, jgh, jgh, jgh, jgh, jgh, jgh]) rfl rfl rfl ?_
  refine jT_xaload_n (v := (4, 1)) (pcN := 34) jIS_325_33 rfl rfl rfl ?_
  refine jT_xiload (v := (0, 1)) (pcN := 36) jIS_325_34 rfl rfl rfl ?_
  refine jT_iald (x := k394_1) (a := 1) (j := 1) (fs := []) (X := [k394_0, k394_1, k394_2, k394_3, k394_4, k394_5]) jIS_325_36 rfl rfl rfl rfl ?_
  refine jT_eq (LN := [(7, (0, 1)), (6, (0, 0)), (5, (0, 0)), (4, (0, 0)), (0, (4, 0)), (1, (0, y4)), (2, (0, t)), (3, (4, 1))]) (stN := [(0, k394_1), (0, 0), (0, 0)]) (hsN := [jzS_251, (100, [], [k394_0, k394_1, k394_2, k394_3, k394_4, k394_5]), (100, [], jS0), jgh, jgh, jgh, jgh, jgh, jgh, jgh, jgh, jgh, jgh, jgh, jgh, jgh, jgh]) rfl rfl rfl ?_
  refine jT_ximul (x := 0) (y := k394_1) (z := 0) (pcN := 38) jIS_325_37 rfl (by omega) rfl ?_
  refine jT_xiadd (x := 0) (y := 0) (z := 0) (pcN := 39) jIS_325_38 rfl (by decide) rfl ?_
  refine jT_xistore (v := (0, 0)) (LN := [(4, (0, 0)), (7, (0, 1)), (6, (0, 0)), (5, (0, 0)), (0, (4, 0)), (1, (0, y4)), (2, (0, t)), (3, (4, 1))]) (pcN := 41) jIS_325_39 rfl rfl rfl rfl ?_
  refine jT_xiload (v := (0, 0)) (pcN := 43) jIS_325_41 rfl rfl rfl ?_
  refine jT_xaload_n (v := (4, 0)) (pcN := 44) jIS_325_43 rfl rfl rfl ?_
  refine jT_xgetf (a := 0) (t := 1) (ci := 14) (fi := 1) (c := jzS_251) (v := (4, 2)) (pcN := 47) jIS_325_44 rfl rfl rfl rfl rfl rfl rfl ?_
  refine jT_xbipush (k := 7) (pcN := 49) jIS_325_47 (by decide) rfl ?_
  refine jT_xiload_n (v := (0, t)) (pcN := 50) jIS_325_49 rfl rfl rfl ?_
  refine jT_ximul (x := 7) (y := t) (z := 7 * t) (pcN := 51) jIS_325_50 rfl (rfl) rfl ?_
  refine jT_xiload (v := (0, 1)) (pcN := 53) jIS_325_51 rfl rfl rfl ?_
  refine jT_xiadd (x := 7 * t) (y := 1) (z := 7 * t + 1) (pcN := 54) jIS_325_53 rfl (by omega) rfl ?_
  refine jT_iald (x := 0) (a := 2) (j := (7 * t + 1).toNat) (fs := []) (X := jS0) (by rfl) (by rfl) (by rfl) (jw_nn (by omega) (by omega)) (jS0_r1 (by omega) (by omega)) ?_
  refine jT_eq (LN := [(4, (0, 0)), (7, (0, 1)), (6, (0, 0)), (5, (0, 0)), (0, (4, 0)), (1, (0, y4)), (2, (0, t)), (3, (4, 1))]) (stN := [(0, 0), (0, 0)]) (hsN := [jzS_251, (100, [], [k394_0, k394_1, k394_2, k394_3, k394_4, k394_5]), (100, [], jS0), jgh, jgh, jgh, jgh, jgh, jgh, jgh, jgh, jgh, jgh, jgh, jgh, jgh, jgh]) rfl rfl rfl ?_
  refine jT_xaload_n (v := (4, 1)) (pcN := 56) jIS_325_55 rfl rfl rfl ?_
  refine jT_xiload (v := (0, 1)) (pcN := 58) jIS_325_56 rfl rfl rfl ?_
  refine jT_iald (x := k394_1) (a := 1) (j := 1) (fs := []) (X := [k394_0, k394_1, k394_2, k394_3, k394_4, k394_5]) jIS_325_58 rfl rfl rfl rfl ?_
  refine jT_eq (LN := [(4, (0, 0)), (7, (0, 1)), (6, (0, 0)), (5, (0, 0)), (0, (4, 0)), (1, (0, y4)), (2, (0, t)), (3, (4, 1))]) (stN := [(0, k394_1), (0, 0), (0, 0)]) (hsN := [jzS_251, (100, [], [k394_0, k394_1, k394_2, k394_3, k394_4, k394_5]), (100, [], jS0), jgh, jgh, jgh, jgh, jgh, jgh, jgh, jgh, jgh, jgh, jgh, jgh, jgh, jgh]) rfl rfl rfl ?_
  refine jT_ximul (x := 0) (y := k394_1) (z := 0) (pcN := 60) jIS_325_59 rfl (by omega) rfl ?_
  refine jT_xiadd (x := 0) (y := 0) (z := 0) (pcN := 61) jIS_325_60 rfl (by decide) rfl ?_
  refine jT_xistore (v := (0, 0)) (LN := [(5, (0, 0)), (4, (0, 0)), (7, (0, 1)), (6, (0, 0)), (0, (4, 0)), (1, (0, y4)), (2, (0, t)), (3, (4, 1))]) (pcN := 63) jIS_325_61 rfl rfl rfl rfl ?_
  refine jT_xiload (v := (0, 0)) (pcN := 65) jIS_325_63 rfl rfl rfl ?_
  refine jT_xaload_n (v := (4, 0)) (pcN := 66) jIS_325_65 rfl rfl rfl ?_
  refine jT_xgetf (a := 0) (t := 1) (ci := 14) (fi := 1) (c := jzS_251) (v := (4, 2)) (pcN := 69) jIS_325_66 rfl rfl rfl rfl rfl rfl rfl ?_
  refine jT_xbipush (k := 7) (pcN := 71) jIS_325_69 (by decide) rfl ?_
  refine jT_xiload_n (v := (0, y4)) (pcN := 72) jIS_325_71 rfl rfl rfl ?_
  refine jT_ximul (x := 7) (y := y4) (z := 7 * y4) (pcN := 73) jIS_325_72 rfl (rfl) rfl ?_
  refine jT_xiload (v := (0, 1)) (pcN := 75) jIS_325_73 rfl rfl rfl ?_
  refine jT_xiadd (x := 7 * y4) (y := 1) (z := 7 * y4 + 1) (pcN := 76) jIS_325_75 rfl (by omega) rfl ?_
  refine jT_iald (x := 0) (a := 2) (j := (7 * y4 + 1).toNat) (fs := []) (X := jS0) (by rfl) (by rfl) (by rfl) (jw_nn (by omega) (by omega)) (jS0_r1 (by omega) (by omega)) ?_
  refine jT_eq (LN := [(5, (0, 0)), (4, (0, 0)), (7, (0, 1)), (6, (0, 0)), (0, (4, 0)), (1, (0, y4)), (2, (0, t)), (3, (4, 1))]) (stN := [(0, 0), (0, 0)]) (hsN := [jzS_251, (100, [], [k394_0, k394_1, k394_2, k394_3, k394_4, k394_5]), (100, [], jS0), jgh, jgh, jgh, jgh, jgh, jgh, jgh, jgh, jgh, jgh, jgh, jgh, jgh, jgh]) rfl rfl rfl ?_
  refine jT_xaload_n (v := (4, 0)) (pcN := 78) jIS_325_77 rfl rfl rfl ?_
  refine jT_xgetf (a := 0) (t := 1) (ci := 14) (fi := 1) (c := jzS_251) (v := (4, 2)) (pcN := 81) jIS_325_78 rfl rfl rfl rfl rfl rfl rfl ?_
  refine jT_xbipush (k := 7) (pcN := 83) jIS_325_81 (by decide) rfl ?_
  refine jT_xiload_n (v := (0, t)) (pcN := 84) jIS_325_83 rfl rfl rfl ?_
  refine jT_ximul (x := 7) (y := t) (z := 7 * t) (pcN := 85) jIS_325_84 rfl (rfl) rfl ?_
  refine jT_xiload (v := (0, 1)) (pcN := 87) jIS_325_85 rfl rfl rfl ?_
  refine jT_xiadd (x := 7 * t) (y := 1) (z := 7 * t + 1) (pcN := 88) jIS_325_87 rfl (by omega) rfl ?_
  refine jT_iald (x := 0) (a := 2) (j := (7 * t + 1).toNat) (fs := []) (X := jS0) (by rfl) (by rfl) (by rfl) (jw_nn (by omega) (by omega)) (jS0_r1 (by omega) (by omega)) ?_
  refine jT_eq (LN := [(5, (0, 0)), (4, (0, 0)), (7, (0, 1)), (6, (0, 0)), (0, (4, 0)), (1, (0, y4)), (2, (0, t)), (3, (4, 1))]) (stN := [(0, 0), (0, 0), (0, 0)]) (hsN := [jzS_251, (100, [], [k394_0, k394_1, k394_2, k394_3, k394_4, k394_5]), (100, [], jS0), jgh, jgh, jgh, jgh, jgh, jgh, jgh, jgh, jgh, jgh, jgh, jgh, jgh, jgh]) rfl rfl rfl ?_
  refine jT_xiadd (x := 0) (y := 0) (z := 0) (pcN := 90) jIS_325_89 rfl (by decide) rfl ?_
  refine jT_xaload_n (v := (4, 1)) (pcN := 91) jIS_325_90 rfl rfl rfl ?_
  refine jT_xiload (v := (0, 1)) (pcN := 93) jIS_325_91 rfl rfl rfl ?_
  refine jT_iald (x := k394_1) (a := 1) (j := 1) (fs := []) (X := [k394_0, k394_1, k394_2, k394_3, k394_4, k394_5]) jIS_325_93 rfl rfl rfl rfl ?_
  refine jT_eq (LN := [(5, (0, 0)), (4, (0, 0)), (7, (0, 1)), (6, (0, 0)), (0, (4, 0)), (1, (0, y4)), (2, (0, t)), (3, (4, 1))]) (stN := [(0, k394_1), (0, 0), (0, 0)]) (hsN := [jzS_251, (100, [], [k394_0, k394_1, k394_2, k394_3, k394_4, k394_5]), (100, [], jS0), jgh, jgh, jgh, jgh, jgh, jgh, jgh, jgh, jgh, jgh, jgh, jgh, jgh, jgh]) rfl rfl rfl ?_
  refine jT_ximul (x := 0) (y := k394_1) (z := 0) (pcN := 95) jIS_325_94 rfl (by omega) rfl ?_
  refine jT_xiadd (x := 0) (y := 0) (z := 0) (pcN := 96) jIS_325_95 rfl (by decide) rfl ?_
  refine jT_xistore (v := (0, 0)) (LN := [(6, (0, 0)), (5, (0, 0)), (4, (0, 0)), (7, (0, 1)), (0, (4, 0)), (1, (0, y4)), (2, (0, t)), (3, (4, 1))]) (pcN := 98) jIS_325_96 rfl rfl rfl rfl ?_
  refine jT_xiinc (x := 1) (z := 2) (LN := [(7, (0, 2)), (6, (0, 0)), (5, (0, 0)), (4, (0, 0)), (0, (4, 0)), (1, (0, y4)), (2, (0, t)), (3, (4, 1))]) (pcN := 101) jIS_325_98 rfl rfl (by decide) rfl rfl ?_
  refine jT_xgoto (pcN := 12) jIS_325_101 rfl ?_
  refine jT_xiload (v := (0, 2)) (pcN := 14) jIS_325_12 rfl rfl rfl ?_
  refine jT_xbipush (k := 6) (pcN := 16) jIS_325_14 (by decide) rfl ?_
  refine jT_xicF (t := 104) (pcN := 19) jIS_325_16 rfl (by decide +kernel) rfl rfl ?_
  refine jT_xiload (v := (0, 0)) (pcN := 21) jIS_325_19 rfl rfl rfl ?_
  refine jT_xaload_n (v := (4, 0)) (pcN := 22) jIS_325_21 rfl rfl rfl ?_
  refine jT_xgetf (a := 0) (t := 1) (ci := 14) (fi := 1) (c := jzS_251) (v := (4, 2)) (pcN := 25) jIS_325_22 rfl rfl rfl rfl rfl rfl rfl ?_
  refine jT_xbipush (k := 7) (pcN := 27) jIS_325_25 (by decide) rfl ?_
  refine jT_xiload_n (v := (0, y4)) (pcN := 28) jIS_325_27 rfl rfl rfl ?_
  refine jT_ximul (x := 7) (y := y4) (z := 7 * y4) (pcN := 29) jIS_325_28 rfl (rfl) rfl ?_
  refine jT_xiload (v := (0, 2)) (pcN := 31) jIS_325_29 rfl rfl rfl ?_
  refine jT_xiadd (x := 7 * y4) (y := 2) (z := 7 * y4 + 2) (pcN := 32) jIS_325_31 rfl (by omega) rfl ?_
  refine jT_iald (x := 0) (a := 2) (j := (7 * y4 + 2).toNat) (fs := []) (X := jS0) (by rfl) (by rfl) (by rfl) (jw_nn (by omega) (by omega)) (jS0_r2 (by omega) (by omega)) ?_
  refine jT_eq (LN := [(7, (0, 2)), (6, (0, 0)), (5, (0, 0)), (4, (0, 0)), (0, (4, 0)), (1, (0, y4)), (2, (0, t)), (3, (4, 1))]) (stN := [(0, 0), (0, 0)]) (hsN := [jzS_251, (100, [], [k394_0, k394_1, k394_2, k394_3, k394_4, k394_5]), (100, [], jS0), jgh, jgh, jgh, jgh, jgh, jgh, jgh, jgh, jgh, jgh, jgh, jgh, jgh, jgh]) rfl rfl rfl ?_
  refine jT_xaload_n (v := (4, 1)) (pcN := 34) jIS_325_33 rfl rfl rfl ?_
  refine jT_xiload (v := (0, 2)) (pcN := 36) jIS_325_34 rfl rfl rfl ?_
  refine jT_iald (x := k394_2) (a := 1) (j := 2) (fs := []) (X := [k394_0, k394_1, k394_2, k394_3, k394_4, k394_5]) jIS_325_36 rfl rfl rfl rfl ?_
  refine jT_eq (LN := [(7, (0, 2)), (6, (0, 0)), (5, (0, 0)), (4, (0, 0)), (0, (4, 0)), (1, (0, y4)), (2, (0, t)), (3, (4, 1))]) (stN := [(0, k394_2), (0, 0), (0, 0)]) (hsN := [jzS_251, (100, [], [k394_0, k394_1, k394_2, k394_3, k394_4, k394_5]), (100, [], jS0), jgh, jgh, jgh, jgh, jgh, jgh, jgh, jgh, jgh, jgh, jgh, jgh, jgh, jgh]) rfl rfl rfl ?_
  refine jT_ximul (x := 0) (y := k394_2) (z := 0) (pcN := 38) jIS_325_37 rfl (by omega) rfl ?_
  refine jT_xiadd (x := 0) (y := 0) (z := 0) (pcN := 39) jIS_325_38 rfl (by decide) rfl ?_
  refine jT_xistore (v := (0, 0)) (LN := [(4, (0, 0)), (7, (0, 2)), (6, (0, 0)), (5, (0, 0)), (0, (4, 0)), (1, (0, y4)), (2, (0, t)), (3, (4, 1))]) (pcN := 41) jIS_325_39 rfl rfl rfl rfl ?_
  refine jT_xiload (v := (0, 0)) (pcN := 43) jIS_325_41 rfl rfl rfl ?_
  refine jT_xaload_n (v := (4, 0)) (pcN := 44) jIS_325_43 rfl rfl rfl ?_
  refine jT_xgetf (a := 0) (t := 1) (ci := 14) (fi := 1) (c := jzS_251) (v := (4, 2)) (pcN := 47) jIS_325_44 rfl rfl rfl rfl rfl rfl rfl ?_
  refine jT_xbipush (k := 7) (pcN := 49) jIS_325_47 (by decide) rfl ?_
  refine jT_xiload_n (v := (0, t)) (pcN := 50) jIS_325_49 rfl rfl rfl ?_
  refine jT_ximul (x := 7) (y := t) (z := 7 * t) (pcN := 51) jIS_325_50 rfl (rfl) rfl ?_
  refine jT_xiload (v := (0, 2)) (pcN := 53) jIS_325_51 rfl rfl rfl ?_
  refine jT_xiadd (x := 7 * t) (y := 2) (z := 7 * t + 2) (pcN := 54) jIS_325_53 rfl (by omega) rfl ?_
  refine jT_iald (x := 0) (a := 2) (j := (7 * t + 2).toNat) (fs := []) (X := jS0) (by rfl) (by rfl) (by rfl) (jw_nn (by omega) (by omega)) (jS0_r2 (by omega) (by omega)) ?_
  refine jT_eq (LN := [(4, (0, 0)), (7, (0, 2)), (6, (0, 0)), (5, (0, 0)), (0, (4, 0)), (1, (0, y4)), (2, (0, t)), (3, (4, 1))]) (stN := [(0, 0), (0, 0)]) (hsN := [jzS_251, (100, [], [k394_0, k394_1, k394_2, k394_3, k394_4, k394_5]), (100, [], jS0), jgh, jgh, jgh, jgh, jgh, jgh, jgh, jgh, jgh, jgh, jgh, jgh, jgh, jgh]) rfl rfl rfl ?_
  refine jT_xaload_n (v := (4, 1)) (pcN := 56) jIS_325_55 rfl rfl rfl ?_
  refine jT_xiload (v := (0, 2)) (pcN := 58) jIS_325_56 rfl rfl rfl ?_
  refine jT_iald (x := k394_2) (a := 1) (j := 2) (fs := []) (X := [k394_0, k394_1, k394_2, k394_3, k394_4, k394_5]) jIS_325_58 rfl rfl rfl rfl ?_
  refine jT_eq (LN := [(4, (0, 0)), (7, (0, 2)), (6, (0, 0)), (5, (0, 0)), (0, (4, 0)), (1, (0, y4)), (2, (0, t)), (3, (4, 1))]) (stN := [(0, k394_2), (0, 0), (0, 0)]) (hsN := [jzS_251, (100, [], [k394_0, k394_1, k394_2, k394_3, k394_4, k394_5]), (100, [], jS0), jgh, jgh, jgh, jgh, jgh, jgh, jgh, jgh, jgh, jgh, jgh, jgh, jgh, jgh]) rfl rfl rfl ?_
  refine jT_ximul (x := 0) (y := k394_2) (z := 0) (pcN := 60) jIS_325_59 rfl (by omega) rfl ?_
  refine jT_xiadd (x := 0) (y := 0) (z := 0) (pcN := 61) jIS_325_60 rfl (by decide) rfl ?_
  refine jT_xistore (v := (0, 0)) (LN := [(5, (0, 0)), (4, (0, 0)), (7, (0, 2)), (6, (0, 0)), (0, (4, 0)), (1, (0, y4)), (2, (0, t)), (3, (4, 1))]) (pcN := 63) jIS_325_61 rfl rfl rfl rfl ?_
  refine jT_xiload (v := (0, 0)) (pcN := 65) jIS_325_63 rfl rfl rfl ?_
  refine jT_xaload_n (v := (4, 0)) (pcN := 66) jIS_325_65 rfl rfl rfl ?_
  refine jT_xgetf (a := 0) (t := 1) (ci := 14) (fi := 1) (c := jzS_251) (v := (4, 2)) (pcN := 69) jIS_325_66 rfl rfl rfl rfl rfl rfl rfl ?_
  refine jT_xbipush (k := 7) (pcN := 71) jIS_325_69 (by decide) rfl ?_
  refine jT_xiload_n (v := (0, y4)) (pcN := 72) jIS_325_71 rfl rfl rfl ?_
  refine jT_ximul (x := 7) (y := y4) (z := 7 * y4) (pcN := 73) jIS_325_72 rfl (rfl) rfl ?_
  refine jT_xiload (v := (0, 2)) (pcN := 75) jIS_325_73 rfl rfl rfl ?_
  refine jT_xiadd (x := 7 * y4) (y := 2) (z := 7 * y4 + 2) (pcN := 76) jIS_325_75 rfl (by omega) rfl ?_
  refine jT_iald (x := 0) (a := 2) (j := (7 * y4 + 2).toNat) (fs := []) (X := jS0) (by rfl) (by rfl) (by rfl) (jw_nn (by omega) (by omega)) (jS0_r2 (by omega) (by omega)) ?_
  refine jT_eq (LN := [(5, (0, 0)), (4, (0, 0)), (7, (0, 2)), (6, (0, 0)), (0, (4, 0)), (1, (0, y4)), (2, (0, t)), (3, (4, 1))]) (stN := [(0, 0), (0, 0)]) (hsN := [jzS_251, (100, [], [k394_0, k394_1, k394_2, k394_3, k394_4, k394_5]), (100, [], jS0), jgh, jgh, jgh, jgh, jgh, jgh, jgh, jgh, jgh, jgh, jgh, jgh, jgh, jgh]) rfl rfl rfl ?_
  refine jT_xaload_n (v := (4, 0)) (pcN := 78) jIS_325_77 rfl rfl rfl ?_
  refine jT_xgetf (a := 0) (t := 1) (ci := 14) (fi := 1) (c := jzS_251) (v := (4, 2)) (pcN := 81) jIS_325_78 rfl rfl rfl rfl rfl rfl rfl ?_
  refine jT_xbipush (k := 7) (pcN := 83) jIS_325_81 (by decide) rfl ?_
  refine jT_xiload_n (v := (0, t)) (pcN := 84) jIS_325_83 rfl rfl rfl ?_
  refine jT_ximul (x := 7) (y := t) (z := 7 * t) (pcN := 85) jIS_325_84 rfl (rfl) rfl ?_
  refine jT_xiload (v := (0, 2)) (pcN := 87) jIS_325_85 rfl rfl rfl ?_
  refine jT_xiadd (x := 7 * t) (y := 2) (z := 7 * t + 2) (pcN := 88) jIS_325_87 rfl (by omega) rfl ?_
  refine jT_iald (x := 0) (a := 2) (j := (7 * t + 2).toNat) (fs := []) (X := jS0) (by rfl) (by rfl) (by rfl) (jw_nn (by omega) (by omega)) (jS0_r2 (by omega) (by omega)) ?_
  refine jT_eq (LN := [(5, (0, 0)), (4, (0, 0)), (7, (0, 2)), (6, (0, 0)), (0, (4, 0)), (1, (0, y4)), (2, (0, t)), (3, (4, 1))]) (stN := [(0, 0), (0, 0), (0, 0)]) (hsN := [jzS_251, (100, [], [k394_0, k394_1, k394_2, k394_3, k394_4, k394_5]), (100, [], jS0), jgh, jgh, jgh, jgh, jgh, jgh, jgh, jgh, jgh, jgh, jgh, jgh, jgh, jgh]) rfl rfl rfl ?_
  refine jT_xiadd (x := 0) (y := 0) (z := 0) (pcN := 90) jIS_325_89 rfl (by decide) rfl ?_
  refine jT_xaload_n (v := (4, 1)) (pcN := 91) jIS_325_90 rfl rfl rfl ?_
  refine jT_xiload (v := (0, 2)) (pcN := 93) jIS_325_91 rfl rfl rfl ?_
  refine jT_iald (x := k394_2) (a := 1) (j := 2) (fs := []) (X := [k394_0, k394_1, k394_2, k394_3, k394_4, k394_5]) jIS_325_93 rfl rfl rfl rfl ?_
  refine jT_eq (LN := [(5, (0, 0)), (4, (0, 0)), (7, (0, 2)), (6, (0, 0)), (0, (4, 0)), (1, (0, y4)), (2, (0, t)), (3, (4, 1))]) (stN := [(0, k394_2), (0, 0), (0, 0)]) (hsN := [jzS_251, (100, [], [k394_0, k394_1, k394_2, k394_3, k394_4, k394_5]), (100, [], jS0), jgh, jgh, jgh, jgh, jgh, jgh, jgh, jgh, jgh, jgh, jgh, jgh, jgh, jgh]) rfl rfl rfl ?_
  refine jT_ximul (x := 0) (y := k394_2) (z := 0) (pcN := 95) jIS_325_94 rfl (by omega) rfl ?_
  refine jT_xiadd (x := 0) (y := 0) (z := 0) (pcN := 96) jIS_325_95 rfl (by decide) rfl ?_
  refine jT_xistore (v := (0, 0)) (LN := [(6, (0, 0)), (5, (0, 0)), (4, (0, 0)), (7, (0, 2)), (0, (4, 0)), (1, (0, y4)), (2, (0, t)), (3, (4, 1))]) (pcN := 98) jIS_325_96 rfl rfl rfl rfl ?_
  refine jT_xiinc (x := 2) (z := 3) (LN := [(7, (0, 3)), (6, (0, 0)), (5, (0, 0)), (4, (0, 0)), (0, (4, 0)), (1, (0, y4)), (2, (0, t)), (3, (4, 1))]) (pcN := 101) jIS_325_98 rfl rfl (by decide) rfl rfl ?_
  refine jT_xgoto (pcN := 12) jIS_325_101 rfl ?_
  refine jT_xiload (v := (0, 3)) (pcN := 14) jIS_325_12 rfl rfl rfl ?_
  refine jT_xbipush (k := 6) (pcN := 16) jIS_325_14 (by decide) rfl ?_
  refine jT_xicF (t := 104) (pcN := 19) jIS_325_16 rfl (by decide +kernel) rfl rfl ?_
  refine jT_xiload (v := (0, 0)) (pcN := 21) jIS_325_19 rfl rfl rfl ?_
  refine jT_xaload_n (v := (4, 0)) (pcN := 22) jIS_325_21 rfl rfl rfl ?_
  refine jT_xgetf (a := 0) (t := 1) (ci := 14) (fi := 1) (c := jzS_251) (v := (4, 2)) (pcN := 25) jIS_325_22 rfl rfl rfl rfl rfl rfl rfl ?_
  refine jT_xbipush (k := 7) (pcN := 27) jIS_325_25 (by decide) rfl ?_
  refine jT_xiload_n (v := (0, y4)) (pcN := 28) jIS_325_27 rfl rfl rfl ?_
  refine jT_ximul (x := 7) (y := y4) (z := 7 * y4) (pcN := 29) jIS_325_28 rfl (rfl) rfl ?_
  refine jT_xiload (v := (0, 3)) (pcN := 31) jIS_325_29 rfl rfl rfl ?_
  refine jT_xiadd (x := 7 * y4) (y := 3) (z := 7 * y4 + 3) (pcN := 32) jIS_325_31 rfl (by omega) rfl ?_
  refine jT_iald (x := 0) (a := 2) (j := (7 * y4 + 3).toNat) (fs := []) (X := jS0) (by rfl) (by rfl) (by rfl) (jw_nn (by omega) (by omega)) (jS0_r3 (by omega) (by omega)) ?_
  refine jT_eq (LN := [(7, (0, 3)), (6, (0, 0)), (5, (0, 0)), (4, (0, 0)), (0, (4, 0)), (1, (0, y4)), (2, (0, t)), (3, (4, 1))]) (stN := [(0, 0), (0, 0)]) (hsN := [jzS_251, (100, [], [k394_0, k394_1, k394_2, k394_3, k394_4, k394_5]), (100, [], jS0), jgh, jgh, jgh, jgh, jgh, jgh, jgh, jgh, jgh, jgh, jgh, jgh, jgh, jgh]) rfl rfl rfl ?_
  refine jT_xaload_n (v := (4, 1)) (pcN := 34) jIS_325_33 rfl rfl rfl ?_
  refine jT_xiload (v := (0, 3)) (pcN := 36) jIS_325_34 rfl rfl rfl ?_
  refine jT_iald (x := k394_3) (a := 1) (j := 3) (fs := []) (X := [k394_0, k394_1, k394_2, k394_3, k394_4, k394_5]) jIS_325_36 rfl rfl rfl rfl ?_
  refine jT_eq (LN := [(7, (0, 3)), (6, (0, 0)), (5, (0, 0)), (4, (0, 0)), (0, (4, 0)), (1, (0, y4)), (2, (0, t)), (3, (4, 1))]) (stN := [(0, k394_3), (0, 0), (0, 0)]) (hsN := [jzS_251, (100, [], [k394_0, k394_1, k394_2, k394_3, k394_4, k394_5]), (100, [], jS0), jgh, jgh, jgh, jgh, jgh, jgh, jgh, jgh, jgh, jgh, jgh, jgh, jgh, jgh]) rfl rfl rfl ?_
  refine jT_ximul (x := 0) (y := k394_3) (z := 0) (pcN := 38) jIS_325_37 rfl (by omega) rfl ?_
  refine jT_xiadd (x := 0) (y := 0) (z := 0) (pcN := 39) jIS_325_38 rfl (by decide) rfl ?_
  refine jT_xistore (v := (0, 0)) (LN := [(4, (0, 0)), (7, (0, 3)), (6, (0, 0)), (5, (0, 0)), (0, (4, 0)), (1, (0, y4)), (2, (0, t)), (3, (4, 1))]) (pcN := 41) jIS_325_39 rfl rfl rfl rfl ?_
  refine jT_xiload (v := (0, 0)) (pcN := 43) jIS_325_41 rfl rfl rfl ?_
  refine jT_xaload_n (v := (4, 0)) (pcN := 44) jIS_325_43 rfl rfl rfl ?_
  refine jT_xgetf (a := 0) (t := 1) (ci := 14) (fi := 1) (c := jzS_251) (v := (4, 2)) (pcN := 47) jIS_325_44 rfl rfl rfl rfl rfl rfl rfl ?_
  refine jT_xbipush (k := 7) (pcN := 49) jIS_325_47 (by decide) rfl ?_
  refine jT_xiload_n (v := (0, t)) (pcN := 50) jIS_325_49 rfl rfl rfl ?_
  refine jT_ximul (x := 7) (y := t) (z := 7 * t) (pcN := 51) jIS_325_50 rfl (rfl) rfl ?_
  refine jT_xiload (v := (0, 3)) (pcN := 53) jIS_325_51 rfl rfl rfl ?_
  refine jT_xiadd (x := 7 * t) (y := 3) (z := 7 * t + 3) (pcN := 54) jIS_325_53 rfl (by omega) rfl ?_
  refine jT_iald (x := 0) (a := 2) (j := (7 * t + 3).toNat) (fs := []) (X := jS0) (by rfl) (by rfl) (by rfl) (jw_nn (by omega) (by omega)) (jS0_r3 (by omega) (by omega)) ?_
  refine jT_eq (LN := [(4, (0, 0)), (7, (0, 3)), (6, (0, 0)), (5, (0, 0)), (0, (4, 0)), (1, (0, y4)), (2, (0, t)), (3, (4, 1))]) (stN := [(0, 0), (0, 0)]) (hsN := [jzS_251, (100, [], [k394_0, k394_1, k394_2, k394_3, k394_4, k394_5]), (100, [], jS0), jgh, jgh, jgh, jgh, jgh, jgh, jgh, jgh, jgh, jgh, jgh, jgh, jgh, jgh]) rfl rfl rfl ?_
  refine jT_xaload_n (v := (4, 1)) (pcN := 56) jIS_325_55 rfl rfl rfl ?_
  refine jT_xiload (v := (0, 3)) (pcN := 58) jIS_325_56 rfl rfl rfl ?_
  refine jT_iald (x := k394_3) (a := 1) (j := 3) (fs := []) (X := [k394_0, k394_1, k394_2, k394_3, k394_4, k394_5]) jIS_325_58 rfl rfl rfl rfl ?_
  refine jT_eq (LN := [(4, (0, 0)), (7, (0, 3)), (6, (0, 0)), (5, (0, 0)), (0, (4, 0)), (1, (0, y4)), (2, (0, t)), (3, (4, 1))]) (stN := [(0, k394_3), (0, 0), (0, 0)]) (hsN := [jzS_251, (100, [], [k394_0, k394_1, k394_2, k394_3, k394_4, k394_5]), (100, [], jS0), jgh, jgh, jgh, jgh, jgh, jgh, jgh, jgh, jgh, jgh, jgh, jgh, jgh, jgh]) rfl rfl rfl ?_
  refine jT_ximul (x := 0) (y := k394_3) (z := 0) (pcN := 60) jIS_325_59 rfl (by omega) rfl ?_
  refine jT_xiadd (x := 0) (y := 0) (z := 0) (pcN := 61) jIS_325_60 rfl (by decide) rfl ?_
  refine jT_xistore (v := (0, 0)) (LN := [(5, (0, 0)), (4, (0, 0)), (7, (0, 3)), (6, (0, 0)), (0, (4, 0)), (1, (0, y4)), (2, (0, t)), (3, (4, 1))]) (pcN := 63) jIS_325_61 rfl rfl rfl rfl ?_
  refine jT_xiload (v := (0, 0)) (pcN := 65) jIS_325_63 rfl rfl rfl ?_
  refine jT_xaload_n (v := (4, 0)) (pcN := 66) jIS_325_65 rfl rfl rfl ?_
  refine jT_xgetf (a := 0) (t := 1) (ci := 14) (fi := 1) (c := jzS_251) (v := (4, 2)) (pcN := 69) jIS_325_66 rfl rfl rfl rfl rfl rfl rfl ?_
  refine jT_xbipush (k := 7) (pcN := 71) jIS_325_69 (by decide) rfl ?_
  refine jT_xiload_n (v := (0, y4)) (pcN := 72) jIS_325_71 rfl rfl rfl ?_
  refine jT_ximul (x := 7) (y := y4) (z := 7 * y4) (pcN := 73) jIS_325_72 rfl (rfl) rfl ?_
  refine jT_xiload (v := (0, 3)) (pcN := 75) jIS_325_73 rfl rfl rfl ?_
  refine jT_xiadd (x := 7 * y4) (y := 3) (z := 7 * y4 + 3) (pcN := 76) jIS_325_75 rfl (by omega) rfl ?_
  refine jT_iald (x := 0) (a := 2) (j := (7 * y4 + 3).toNat) (fs := []) (X := jS0) (by rfl) (by rfl) (by rfl) (jw_nn (by omega) (by omega)) (jS0_r3 (by omega) (by omega)) ?_
  refine jT_eq (LN := [(5, (0, 0)), (4, (0, 0)), (7, (0, 3)), (6, (0, 0)), (0, (4, 0)), (1, (0, y4)), (2, (0, t)), (3, (4, 1))]) (stN := [(0, 0), (0, 0)]) (hsN := [jzS_251, (100, [], [k394_0, k394_1, k394_2, k394_3, k394_4, k394_5]), (100, [], jS0), jgh, jgh, jgh, jgh, jgh, jgh, jgh, jgh, jgh, jgh, jgh, jgh, jgh, jgh]) rfl rfl rfl ?_
  refine jT_xaload_n (v := (4, 0)) (pcN := 78) jIS_325_77 rfl rfl rfl ?_
  refine jT_xgetf (a := 0) (t := 1) (ci := 14) (fi := 1) (c := jzS_251) (v := (4, 2)) (pcN := 81) jIS_325_78 rfl rfl rfl rfl rfl rfl rfl ?_
  refine jT_xbipush (k := 7) (pcN := 83) jIS_325_81 (by decide) rfl ?_
  refine jT_xiload_n (v := (0, t)) (pcN := 84) jIS_325_83 rfl rfl rfl ?_
  refine jT_ximul (x := 7) (y := t) (z := 7 * t) (pcN := 85) jIS_325_84 rfl (rfl) rfl ?_
  refine jT_xiload (v := (0, 3)) (pcN := 87) jIS_325_85 rfl rfl rfl ?_
  refine jT_xiadd (x := 7 * t) (y := 3) (z := 7 * t + 3) (pcN := 88) jIS_325_87 rfl (by omega) rfl ?_
  refine jT_iald (x := 0) (a := 2) (j := (7 * t + 3).toNat) (fs := []) (X := jS0) (by rfl) (by rfl) (by rfl) (jw_nn (by omega) (by omega)) (jS0_r3 (by omega) (by omega)) ?_
  refine jT_eq (LN := [(5, (0, 0)), (4, (0, 0)), (7, (0, 3)), (6, (0, 0)), (0, (4, 0)), (1, (0, y4)), (2, (0, t)), (3, (4, 1))]) (stN := [(0, 0), (0, 0), (0, 0)]) (hsN := [jzS_251, (100, [], [k394_0, k394_1, k394_2, k394_3, k394_4, k394_5]), (100, [], jS0), jgh, jgh, jgh, jgh, jgh, jgh, jgh, jgh, jgh, jgh, jgh, jgh, jgh, jgh]) rfl rfl rfl ?_
  refine jT_xiadd (x := 0) (y := 0) (z := 0) (pcN := 90) jIS_325_89 rfl (by decide) rfl ?_
  refine jT_xaload_n (v := (4, 1)) (pcN := 91) jIS_325_90 rfl rfl rfl ?_
  refine jT_xiload (v := (0, 3)) (pcN := 93) jIS_325_91 rfl rfl rfl ?_
  refine jT_iald (x := k394_3) (a := 1) (j := 3) (fs := []) (X := [k394_0, k394_1, k394_2, k394_3, k394_4, k394_5]) jIS_325_93 rfl rfl rfl rfl ?_
  refine jT_eq (LN := [(5, (0, 0)), (4, (0, 0)), (7, (0, 3)), (6, (0, 0)), (0, (4, 0)), (1, (0, y4)), (2, (0, t)), (3, (4, 1))]) (stN := [(0, k394_3), (0, 0), (0, 0)]) (hsN := [jzS_251, (100, [], [k394_0, k394_1, k394_2, k394_3, k394_4, k394_5]), (100, [], jS0), jgh, jgh, jgh, jgh, jgh, jgh, jgh, jgh, jgh, jgh, jgh, jgh, jgh, jgh]) rfl rfl rfl ?_
  refine jT_ximul (x := 0) (y := k394_3) (z := 0) (pcN := 95) jIS_325_94 rfl (by omega) rfl ?_
  refine jT_xiadd (x := 0) (y := 0) (z := 0) (pcN := 96) jIS_325_95 rfl (by decide) rfl ?_
  refine jT_xistore (v := (0, 0)) (LN := [(6, (0, 0)), (5, (0, 0)), (4, (0, 0)), (7, (0, 3)), (0, (4, 0)), (1, (0, y4)), (2, (0, t)), (3, (4, 1))]) (pcN := 98) jIS_325_96 rfl rfl rfl rfl ?_
  refine jT_xiinc (x := 3) (z := 4) (LN := [(7, (0, 4)), (6, (0, 0)), (5, (0, 0)), (4, (0, 0)), (0, (4, 0)), (1, (0, y4)), (2, (0, t)), (3, (4, 1))]) (pcN := 101) jIS_325_98 rfl rfl (by decide) rfl rfl ?_
  refine jT_xgoto (pcN := 12) jIS_325_101 rfl ?_
  refine jT_xiload (v := (0, 4)) (pcN := 14) jIS_325_12 rfl rfl rfl ?_
  refine jT_xbipush (k := 6) (pcN := 16) jIS_325_14 (by decide) rfl ?_
  refine jT_xicF (t := 104) (pcN := 19) jIS_325_16 rfl (by decide +kernel) rfl rfl ?_
  refine jT_xiload (v := (0, 0)) (pcN := 21) jIS_325_19 rfl rfl rfl ?_
  refine jT_xaload_n (v := (4, 0)) (pcN := 22) jIS_325_21 rfl rfl rfl ?_
  refine jT_xgetf (a := 0) (t := 1) (ci := 14) (fi := 1) (c := jzS_251) (v := (4, 2)) (pcN := 25) jIS_325_22 rfl rfl rfl rfl rfl rfl rfl ?_
  refine jT_xbipush (k := 7) (pcN := 27) jIS_325_25 (by decide) rfl ?_
  refine jT_xiload_n (v := (0, y4)) (pcN := 28) jIS_325_27 rfl rfl rfl ?_
  refine jT_ximul (x := 7) (y := y4) (z := 7 * y4) (pcN := 29) jIS_325_28 rfl (rfl) rfl ?_
  refine jT_xiload (v := (0, 4)) (pcN := 31) jIS_325_29 rfl rfl rfl ?_
  refine jT_xiadd (x := 7 * y4) (y := 4) (z := 7 * y4 + 4) (pcN := 32) jIS_325_31 rfl (by omega) rfl ?_
  refine jT_iald (x := 0) (a := 2) (j := (7 * y4 + 4).toNat) (fs := []) (X := jS0) (by rfl) (by rfl) (by rfl) (jw_nn (by omega) (by omega)) (jS0_r4 (by omega) (by omega)) ?_
  refine jT_eq (LN := [(7, (0, 4)), (6, (0, 0)), (5, (0, 0)), (4, (0, 0)), (0, (4, 0)), (1, (0, y4)), (2, (0, t)), (3, (4, 1))]) (stN := [(0, 0), (0, 0)]) (hsN := [jzS_251, (100, [], [k394_0, k394_1, k394_2, k394_3, k394_4, k394_5]), (100, [], jS0), jgh, jgh, jgh, jgh, jgh, jgh, jgh, jgh, jgh, jgh, jgh, jgh, jgh, jgh]) rfl rfl rfl ?_
  refine jT_xaload_n (v := (4, 1)) (pcN := 34) jIS_325_33 rfl rfl rfl ?_
  refine jT_xiload (v := (0, 4)) (pcN := 36) jIS_325_34 rfl rfl rfl ?_
  refine jT_iald (x := k394_4) (a := 1) (j := 4) (fs := []) (X := [k394_0, k394_1, k394_2, k394_3, k394_4, k394_5]) jIS_325_36 rfl rfl rfl rfl ?_
  refine jT_eq (LN := [(7, (0, 4)), (6, (0, 0)), (5, (0, 0)), (4, (0, 0)), (0, (4, 0)), (1, (0, y4)), (2, (0, t)), (3, (4, 1))]) (stN := [(0, k394_4), (0, 0), (0, 0)]) (hsN := [jzS_251, (100, [], [k394_0, k394_1, k394_2, k394_3, k394_4, k394_5]), (100, [], jS0), jgh, jgh, jgh, jgh, jgh, jgh, jgh, jgh, jgh, jgh, jgh, jgh, jgh, jgh]) rfl rfl rfl ?_
  refine jT_ximul (x := 0) (y := k394_4) (z := 0) (pcN := 38) jIS_325_37 rfl (by omega) rfl ?_
  refine jT_xiadd (x := 0) (y := 0) (z := 0) (pcN := 39) jIS_325_38 rfl (by decide) rfl ?_
  refine jT_xistore (v := (0, 0)) (LN := [(4, (0, 0)), (7, (0, 4)), (6, (0, 0)), (5, (0, 0)), (0, (4, 0)), (1, (0, y4)), (2, (0, t)), (3, (4, 1))]) (pcN := 41) jIS_325_39 rfl rfl rfl rfl ?_
  refine jT_xiload (v := (0, 0)) (pcN := 43) jIS_325_41 rfl rfl rfl ?_
  refine jT_xaload_n (v := (4, 0)) (pcN := 44) jIS_325_43 rfl rfl rfl ?_
  refine jT_xgetf (a := 0) (t := 1) (ci := 14) (fi := 1) (c := jzS_251) (v := (4, 2)) (pcN := 47) jIS_325_44 rfl rfl rfl rfl rfl rfl rfl ?_
  refine jT_xbipush (k := 7) (pcN := 49) jIS_325_47 (by decide) rfl ?_
  refine jT_xiload_n (v := (0, t)) (pcN := 50) jIS_325_49 rfl rfl rfl ?_
  refine jT_ximul (x := 7) (y := t) (z := 7 * t) (pcN := 51) jIS_325_50 rfl (rfl) rfl ?_
  refine jT_xiload (v := (0, 4)) (pcN := 53) jIS_325_51 rfl rfl rfl ?_
  refine jT_xiadd (x := 7 * t) (y := 4) (z := 7 * t + 4) (pcN := 54) jIS_325_53 rfl (by omega) rfl ?_
  refine jT_iald (x := 0) (a := 2) (j := (7 * t + 4).toNat) (fs := []) (X := jS0) (by rfl) (by rfl) (by rfl) (jw_nn (by omega) (by omega)) (jS0_r4 (by omega) (by omega)) ?_
  refine jT_eq (LN := [(4, (0, 0)), (7, (0, 4)), (6, (0, 0)), (5, (0, 0)), (0, (4, 0)), (1, (0, y4)), (2, (0, t)), (3, (4, 1))]) (stN := [(0, 0), (0, 0)]) (hsN := [jzS_251, (100, [], [k394_0, k394_1, k394_2, k394_3, k394_4, k394_5]), (100, [], jS0), jgh, jgh, jgh, jgh, jgh, jgh, jgh, jgh, jgh, jgh, jgh, jgh, jgh, jgh]) rfl rfl rfl ?_
  refine jT_xaload_n (v := (4, 1)) (pcN := 56) jIS_325_55 rfl rfl rfl ?_
  refine jT_xiload (v := (0, 4)) (pcN := 58) jIS_325_56 rfl rfl rfl ?_
  refine jT_iald (x := k394_4) (a := 1) (j := 4) (fs := []) (X := [k394_0, k394_1, k394_2, k394_3, k394_4, k394_5]) jIS_325_58 rfl rfl rfl rfl ?_
  refine jT_eq (LN := [(4, (0, 0)), (7, (0, 4)), (6, (0, 0)), (5, (0, 0)), (0, (4, 0)), (1, (0, y4)), (2, (0, t)), (3, (4, 1))]) (stN := [(0, k394_4), (0, 0), (0, 0)]) (hsN := [jzS_251, (100, [], [k394_0, k394_1, k394_2, k394_3, k394_4, k394_5]), (100, [], jS0), jgh, jgh, jgh, jgh, jgh, jgh, jgh, jgh, jgh, jgh, jgh, jgh, jgh, jgh]) rfl rfl rfl ?_
  refine jT_ximul (x := 0) (y := k394_4) (z := 0) (pcN := 60) jIS_325_59 rfl (by omega) rfl ?_
  refine jT_xiadd (x := 0) (y := 0) (z := 0) (pcN := 61) jIS_325_60 rfl (by decide) rfl ?_
  refine jT_xistore (v := (0, 0)) (LN := [(5, (0, 0)), (4, (0, 0)), (7, (0, 4)), (6, (0, 0)), (0, (4, 0)), (1, (0, y4)), (2, (0, t)), (3, (4, 1))]) (pcN := 63) jIS_325_61 rfl rfl rfl rfl ?_
  refine jT_xiload (v := (0, 0)) (pcN := 65) jIS_325_63 rfl rfl rfl ?_
  refine jT_xaload_n (v := (4, 0)) (pcN := 66) jIS_325_65 rfl rfl rfl ?_
  refine jT_xgetf (a := 0) (t := 1) (ci := 14) (fi := 1) (c := jzS_251) (v := (4, 2)) (pcN := 69) jIS_325_66 rfl rfl rfl rfl rfl rfl rfl ?_
  refine jT_xbipush (k := 7) (pcN := 71) jIS_325_69 (by decide) rfl ?_
  refine jT_xiload_n (v := (0, y4)) (pcN := 72) jIS_325_71 rfl rfl rfl ?_
  refine jT_ximul (x := 7) (y := y4) (z := 7 * y4) (pcN := 73) jIS_325_72 rfl (rfl) rfl ?_
  refine jT_xiload (v := (0, 4)) (pcN := 75) jIS_325_73 rfl rfl rfl ?_
  refine jT_xiadd (x := 7 * y4) (y := 4) (z := 7 * y4 + 4) (pcN := 76) jIS_325_75 rfl (by omega) rfl ?_
  refine jT_iald (x := 0) (a := 2) (j := (7 * y4 + 4).toNat) (fs := []) (X := jS0) (by rfl) (by rfl) (by rfl) (jw_nn (by omega) (by omega)) (jS0_r4 (by omega) (by omega)) ?_
  refine jT_eq (LN := [(5, (0, 0)), (4, (0, 0)), (7, (0, 4)), (6, (0, 0)), (0, (4, 0)), (1, (0, y4)), (2, (0, t)), (3, (4, 1))]) (stN := [(0, 0), (0, 0)]) (hsN := [jzS_251, (100, [], [k394_0, k394_1, k394_2, k394_3, k394_4, k394_5]), (100, [], jS0), jgh, jgh, jgh, jgh, jgh, jgh, jgh, jgh, jgh, jgh, jgh, jgh, jgh, jgh]) rfl rfl rfl ?_
  refine jT_xaload_n (v := (4, 0)) (pcN := 78) jIS_325_77 rfl rfl rfl ?_
  refine jT_xgetf (a := 0) (t := 1) (ci := 14) (fi := 1) (c := jzS_251) (v := (4, 2)) (pcN := 81) jIS_325_78 rfl rfl rfl rfl rfl rfl rfl ?_
  refine jT_xbipush (k := 7) (pcN := 83) jIS_325_81 (by decide) rfl ?_
  refine jT_xiload_n (v := (0, t)) (pcN := 84) jIS_325_83 rfl rfl rfl ?_
  refine jT_ximul (x := 7) (y := t) (z := 7 * t) (pcN := 85) jIS_325_84 rfl (rfl) rfl ?_
  refine jT_xiload (v := (0, 4)) (pcN := 87) jIS_325_85 rfl rfl rfl ?_
  refine jT_xiadd (x := 7 * t) (y := 4) (z := 7 * t + 4) (pcN := 88) jIS_325_87 rfl (by omega) rfl ?_
  refine jT_iald (x := 0) (a := 2) (j := (7 * t + 4).toNat) (fs := []) (X := jS0) (by rfl) (by rfl) (by rfl) (jw_nn (by omega) (by omega)) (jS0_r4 (by omega) (by omega)) ?_
  refine jT_eq (LN := [(5, (0, 0)), (4, (0, 0)), (7, (0, 4)), (6, (0, 0)), (0, (4, 0)), (1, (0, y4)), (2, (0, t)), (3, (4, 1))]) (stN := [(0, 0), (0, 0), (0, 0)]) (hsN := [jzS_251, (100, [], [k394_0, k394_1, k394_2, k394_3, k394_4, k394_5]), (100, [], jS0), jgh, jgh, jgh, jgh, jgh, jgh, jgh, jgh, jgh, jgh, jgh, jgh, jgh, jgh]) rfl rfl rfl ?_
  refine jT_xiadd (x := 0) (y := 0) (z := 0) (pcN := 90) jIS_325_89 rfl (by decide) rfl ?_
  refine jT_xaload_n (v := (4, 1)) (pcN := 91) jIS_325_90 rfl rfl rfl ?_
  refine jT_xiload (v := (0, 4)) (pcN := 93) jIS_325_91 rfl rfl rfl ?_
  refine jT_iald (x := k394_4) (a := 1) (j := 4) (fs := []) (X := [k394_0, k394_1, k394_2, k394_3, k394_4, k394_5]) jIS_325_93 rfl rfl rfl rfl ?_
  refine jT_eq (LN := [(5, (0, 0)), (4, (0, 0)), (7, (0, 4)), (6, (0, 0)), (0, (4, 0)), (1, (0, y4)), (2, (0, t)), (3, (4, 1))]) (stN := [(0, k394_4), (0, 0), (0, 0)]) (hsN := [jzS_251, (100, [], [k394_0, k394_1, k394_2, k394_3, k394_4, k394_5]), (100, [], jS0), jgh, jgh, jgh, jgh, jgh, jgh, jgh, jgh, jgh, jgh, jgh, jgh, jgh, jgh]) rfl rfl rfl ?_
  refine jT_ximul (x := 0) (y := k394_4) (z := 0) (pcN := 95) jIS_325_94 rfl (by omega) rfl ?_
  refine jT_xiadd (x := 0) (y := 0) (z := 0) (pcN := 96) jIS_325_95 rfl (by decide) rfl ?_
  refine jT_xistore (v := (0, 0)) (LN := [(6, (0, 0)), (5, (0, 0)), (4, (0, 0)), (7, (0, 4)), (0, (4, 0)), (1, (0, y4)), (2, (0, t)), (3, (4, 1))]) (pcN := 98) jIS_325_96 rfl rfl rfl rfl ?_
  refine jT_xiinc (x := 4) (z := 5) (LN := [(7, (0, 5)), (6, (0, 0)), (5, (0, 0)), (4, (0, 0)), (0, (4, 0)), (1, (0, y4)), (2, (0, t)), (3, (4, 1))]) (pcN := 101) jIS_325_98 rfl rfl (by decide) rfl rfl ?_
  refine jT_xgoto (pcN := 12) jIS_325_101 rfl ?_
  refine jT_xiload (v := (0, 5)) (pcN := 14) jIS_325_12 rfl rfl rfl ?_
  refine jT_xbipush (k := 6) (pcN := 16) jIS_325_14 (by decide) rfl ?_
  refine jT_xicF (t := 104) (pcN := 19) jIS_325_16 rfl (by decide +kernel) rfl rfl ?_
  refine jT_xiload (v := (0, 0)) (pcN := 21) jIS_325_19 rfl rfl rfl ?_
  refine jT_xaload_n (v := (4, 0)) (pcN := 22) jIS_325_21 rfl rfl rfl ?_
  refine jT_xgetf (a := 0) (t := 1) (ci := 14) (fi := 1) (c := jzS_251) (v := (4, 2)) (pcN := 25) jIS_325_22 rfl rfl rfl rfl rfl rfl rfl ?_
  refine jT_xbipush (k := 7) (pcN := 27) jIS_325_25 (by decide) rfl ?_
  refine jT_xiload_n (v := (0, y4)) (pcN := 28) jIS_325_27 rfl rfl rfl ?_
  refine jT_ximul (x := 7) (y := y4) (z := 7 * y4) (pcN := 29) jIS_325_28 rfl (rfl) rfl ?_
  refine jT_xiload (v := (0, 5)) (pcN := 31) jIS_325_29 rfl rfl rfl ?_
  refine jT_xiadd (x := 7 * y4) (y := 5) (z := 7 * y4 + 5) (pcN := 32) jIS_325_31 rfl (by omega) rfl ?_
  refine jT_iald (x := 0) (a := 2) (j := (7 * y4 + 5).toNat) (fs := []) (X := jS0) (by rfl) (by rfl) (by rfl) (jw_nn (by omega) (by omega)) (jS0_r5 (by omega) (by omega)) ?_
  refine jT_eq (LN := [(7, (0, 5)), (6, (0, 0)), (5, (0, 0)), (4, (0, 0)), (0, (4, 0)), (1, (0, y4)), (2, (0, t)), (3, (4, 1))]) (stN := [(0, 0), (0, 0)]) (hsN := [jzS_251, (100, [], [k394_0, k394_1, k394_2, k394_3, k394_4, k394_5]), (100, [], jS0), jgh, jgh, jgh, jgh, jgh, jgh, jgh, jgh, jgh, jgh, jgh, jgh, jgh, jgh]) rfl rfl rfl ?_
  refine jT_xaload_n (v := (4, 1)) (pcN := 34) jIS_325_33 rfl rfl rfl ?_
  refine jT_xiload (v := (0, 5)) (pcN := 36) jIS_325_34 rfl rfl rfl ?_
  refine jT_iald (x := k394_5) (a := 1) (j := 5) (fs := []) (X := [k394_0, k394_1, k394_2, k394_3, k394_4, k394_5]) jIS_325_36 rfl rfl rfl rfl ?_
  refine jT_eq (LN := [(7, (0, 5)), (6, (0, 0)), (5, (0, 0)), (4, (0, 0)), (0, (4, 0)), (1, (0, y4)), (2, (0, t)), (3, (4, 1))]) (stN := [(0, k394_5), (0, 0), (0, 0)]) (hsN := [jzS_251, (100, [], [k394_0, k394_1, k394_2, k394_3, k394_4, k394_5]), (100, [], jS0), jgh, jgh, jgh, jgh, jgh, jgh, jgh, jgh, jgh, jgh, jgh, jgh, jgh, jgh]) rfl rfl rfl ?_
  refine jT_ximul (x := 0) (y := k394_5) (z := 0) (pcN := 38) jIS_325_37 rfl (by omega) rfl ?_
  refine jT_xiadd (x := 0) (y := 0) (z := 0) (pcN := 39) jIS_325_38 rfl (by decide) rfl ?_
  refine jT_xistore (v := (0, 0)) (LN := [(4, (0, 0)), (7, (0, 5)), (6, (0, 0)), (5, (0, 0)), (0, (4, 0)), (1, (0, y4)), (2, (0, t)), (3, (4, 1))]) (pcN := 41) jIS_325_39 rfl rfl rfl rfl ?_
  refine jT_xiload (v := (0, 0)) (pcN := 43) jIS_325_41 rfl rfl rfl ?_
  refine jT_xaload_n (v := (4, 0)) (pcN := 44) jIS_325_43 rfl rfl rfl ?_
  refine jT_xgetf (a := 0) (t := 1) (ci := 14) (fi := 1) (c := jzS_251) (v := (4, 2)) (pcN := 47) jIS_325_44 rfl rfl rfl rfl rfl rfl rfl ?_
  refine jT_xbipush (k := 7) (pcN := 49) jIS_325_47 (by decide) rfl ?_
  refine jT_xiload_n (v := (0, t)) (pcN := 50) jIS_325_49 rfl rfl rfl ?_
  refine jT_ximul (x := 7) (y := t) (z := 7 * t) (pcN := 51) jIS_325_50 rfl (rfl) rfl ?_
  refine jT_xiload (v := (0, 5)) (pcN := 53) jIS_325_51 rfl rfl rfl ?_
  refine jT_xiadd (x := 7 * t) (y := 5) (z := 7 * t + 5) (pcN := 54) jIS_325_53 rfl (by omega) rfl ?_
  refine jT_iald (x := 0) (a := 2) (j := (7 * t + 5).toNat) (fs := []) (X := jS0) (by rfl) (by rfl) (by rfl) (jw_nn (by omega) (by omega)) (jS0_r5 (by omega) (by omega)) ?_
  refine jT_eq (LN := [(4, (0, 0)), (7, (0, 5)), (6, (0, 0)), (5, (0, 0)), (0, (4, 0)), (1, (0, y4)), (2, (0, t)), (3, (4, 1))]) (stN := [(0, 0), (0, 0)]) (hsN := [jzS_251, (100, [], [k394_0, k394_1, k394_2, k394_3, k394_4, k394_5]), (100, [], jS0), jgh, jgh, jgh, jgh, jgh, jgh, jgh, jgh, jgh, jgh, jgh, jgh, jgh, jgh]) rfl rfl rfl ?_
  refine jT_xaload_n (v := (4, 1)) (pcN := 56) jIS_325_55 rfl rfl rfl ?_
  refine jT_xiload (v := (0, 5)) (pcN := 58) jIS_325_56 rfl rfl rfl ?_
  refine jT_iald (x := k394_5) (a := 1) (j := 5) (fs := []) (X := [k394_0, k394_1, k394_2, k394_3, k394_4, k394_5]) jIS_325_58 rfl rfl rfl rfl ?_
  refine jT_eq (LN := [(4, (0, 0)), (7, (0, 5)), (6, (0, 0)), (5, (0, 0)), (0, (4, 0)), (1, (0, y4)), (2, (0, t)), (3, (4, 1))]) (stN := [(0, k394_5), (0, 0), (0, 0)]) (hsN := [jzS_251, (100, [], [k394_0, k394_1, k394_2, k394_3, k394_4, k394_5]), (100, [], jS0), jgh, jgh, jgh, jgh, jgh, jgh, jgh, jgh, jgh, jgh, jgh, jgh, jgh, jgh]) rfl rfl rfl ?_
  refine jT_ximul (x := 0) (y := k394_5) (z := 0) (pcN := 60) jIS_325_59 rfl (by omega) rfl ?_
  refine jT_xiadd (x := 0) (y := 0) (z := 0) (pcN := 61) jIS_325_60 rfl (by decide) rfl ?_
  refine jT_xistore (v := (0, 0)) (LN := [(5, (0, 0)), (4, (0, 0)), (7, (0, 5)), (6, (0, 0)), (0, (4, 0)), (1, (0, y4)), (2, (0, t)), (3, (4, 1))]) (pcN := 63) jIS_325_61 rfl rfl rfl rfl ?_
  refine jT_xiload (v := (0, 0)) (pcN := 65) jIS_325_63 rfl rfl rfl ?_
  refine jT_xaload_n (v := (4, 0)) (pcN := 66) jIS_325_65 rfl rfl rfl ?_
  refine jT_xgetf (a := 0) (t := 1) (ci := 14) (fi := 1) (c := jzS_251) (v := (4, 2)) (pcN := 69) jIS_325_66 rfl rfl rfl rfl rfl rfl rfl ?_
  refine jT_xbipush (k := 7) (pcN := 71) jIS_325_69 (by decide) rfl ?_
  refine jT_xiload_n (v := (0, y4)) (pcN := 72) jIS_325_71 rfl rfl rfl ?_
  refine jT_ximul (x := 7) (y := y4) (z := 7 * y4) (pcN := 73) jIS_325_72 rfl (rfl) rfl ?_
  refine jT_xiload (v := (0, 5)) (pcN := 75) jIS_325_73 rfl rfl rfl ?_
  refine jT_xiadd (x := 7 * y4) (y := 5) (z := 7 * y4 + 5) (pcN := 76) jIS_325_75 rfl (by omega) rfl ?_
  refine jT_iald (x := 0) (a := 2) (j := (7 * y4 + 5).toNat) (fs := []) (X := jS0) (by rfl) (by rfl) (by rfl) (jw_nn (by omega) (by omega)) (jS0_r5 (by omega) (by omega)) ?_
  refine jT_eq (LN := [(5, (0, 0)), (4, (0, 0)), (7, (0, 5)), (6, (0, 0)), (0, (4, 0)), (1, (0, y4)), (2, (0, t)), (3, (4, 1))]) (stN := [(0, 0), (0, 0)]) (hsN := [jzS_251, (100, [], [k394_0, k394_1, k394_2, k394_3, k394_4, k394_5]), (100, [], jS0), jgh, jgh, jgh, jgh, jgh, jgh, jgh, jgh, jgh, jgh, jgh, jgh, jgh, jgh]) rfl rfl rfl ?_
  refine jT_xaload_n (v := (4, 0)) (pcN := 78) jIS_325_77 rfl rfl rfl ?_
  refine jT_xgetf (a := 0) (t := 1) (ci := 14) (fi := 1) (c := jzS_251) (v := (4, 2)) (pcN := 81) jIS_325_78 rfl rfl rfl rfl rfl rfl rfl ?_
  refine jT_xbipush (k := 7) (pcN := 83) jIS_325_81 (by decide) rfl ?_
  refine jT_xiload_n (v := (0, t)) (pcN := 84) jIS_325_83 rfl rfl rfl ?_
  refine jT_ximul (x := 7) (y := t) (z := 7 * t) (pcN := 85) jIS_325_84 rfl (rfl) rfl ?_
  refine jT_xiload (v := (0, 5)) (pcN := 87) jIS_325_85 rfl rfl rfl ?_
  refine jT_xiadd (x := 7 * t) (y := 5) (z := 7 * t + 5) (pcN := 88) jIS_325_87 rfl (by omega) rfl ?_
  refine jT_iald (x := 0) (a := 2) (j := (7 * t + 5).toNat) (fs := []) (X := jS0) (by rfl) (by rfl) (by rfl) (jw_nn (by omega) (by omega)) (jS0_r5 (by omega) (by omega)) ?_
  refine jT_eq (LN := [(5, (0, 0)), (4, (0, 0)), (7, (0, 5)), (6, (0, 0)), (0, (4, 0)), (1, (0, y4)), (2, (0, t)), (3, (4, 1))]) (stN := [(0, 0), (0, 0), (0, 0)]) (hsN := [jzS_251, (100, [], [k394_0, k394_1, k394_2, k394_3, k394_4, k394_5]), (100, [], jS0), jgh, jgh, jgh, jgh, jgh, jgh, jgh, jgh, jgh, jgh, jgh, jgh, jgh, jgh]) rfl rfl rfl ?_
  refine jT_xiadd (x := 0) (y := 0) (z := 0) (pcN := 90) jIS_325_89 rfl (by decide) rfl ?_
  refine jT_xaload_n (v := (4, 1)) (pcN := 91) jIS_325_90 rfl rfl rfl ?_
  refine jT_xiload (v := (0, 5)) (pcN := 93) jIS_325_91 rfl rfl rfl ?_
  refine jT_iald (x := k394_5) (a := 1) (j := 5) (fs := []) (X := [k394_0, k394_1, k394_2, k394_3, k394_4, k394_5]) jIS_325_93 rfl rfl rfl rfl ?_
  refine jT_eq (LN := [(5, (0, 0)), (4, (0, 0)), (7, (0, 5)), (6, (0, 0)), (0, (4, 0)), (1, (0, y4)), (2, (0, t)), (3, (4, 1))]) (stN := [(0, k394_5), (0, 0), (0, 0)]) (hsN := [jzS_251, (100, [], [k394_0, k394_1, k394_2, k394_3, k394_4, k394_5]), (100, [], jS0), jgh, jgh, jgh, jgh, jgh, jgh, jgh, jgh, jgh, jgh, jgh, jgh, jgh, jgh]) rfl rfl rfl ?_
  refine jT_ximul (x := 0) (y := k394_5) (z := 0) (pcN := 95) jIS_325_94 rfl (by omega) rfl ?_
  refine jT_xiadd (x := 0) (y := 0) (z := 0) (pcN := 96) jIS_325_95 rfl (by decide) rfl ?_
  refine jT_xistore (v := (0, 0)) (LN := [(6, (0, 0)), (5, (0, 0)), (4, (0, 0)), (7, (0, 5)), (0, (4, 0)), (1, (0, y4)), (2, (0, t)), (3, (4, 1))]) (pcN := 98) jIS_325_96 rfl rfl rfl rfl ?_
  refine jT_xiinc (x := 5) (z := 6) (LN := [(7, (0, 6)), (6, (0, 0)), (5, (0, 0)), (4, (0, 0)), (0, (4, 0)), (1, (0, y4)), (2, (0, t)), (3, (4, 1))]) (pcN := 101) jIS_325_98 rfl rfl (by decide) rfl rfl ?_
  refine jT_xgoto (pcN := 12) jIS_325_101 rfl ?_
  refine jT_xiload (v := (0, 6)) (pcN := 14) jIS_325_12 rfl rfl rfl ?_
  refine jT_xbipush (k := 6) (pcN := 16) jIS_325_14 (by decide) rfl ?_
  refine jT_xicT (pcN := 104) jIS_325_16 rfl (by decide +kernel) rfl ?_
  refine jT_xiload (v := (0, 0)) (pcN := 106) jIS_325_104 rfl rfl rfl ?_
  refine jT_xiload (v := (0, 0)) (pcN := 108) jIS_325_106 rfl rfl rfl ?_
  refine jT_xiload (v := (0, 0)) (pcN := 110) jIS_325_108 rfl rfl rfl ?_
  refine jT_xiadd (x := 0) (y := 0) (z := 0) (pcN := 111) jIS_325_110 rfl (by decide) rfl ?_
  refine jT_xicF (t := 118) (pcN := 114) jIS_325_111 rfl (by decide +kernel) rfl rfl ?_
  refine jT_xiconst (k := 1) (pcN := 115) jIS_325_114 rfl ?_
  refine jT_xgoto (pcN := 119) jIS_325_115 rfl ?_
  exact jT_ret rfl (by decide) (by show 17 ≤ 17; omega) (by omega) (by omega) ⟨rfl, rfl, rfl⟩
theorem jS_325_237 {xs : List Int} {d : Nat} {k22_0 k22_1 k22_2 k22_3 k22_4 k22_5 t y4 : Int} (h_k22_0 : 1 ≤ k22_0 ∧ k22_0 ≤ 4001) (h_k22_1 : 1 ≤ k22_1 ∧ k22_1 ≤ 4001) (h_k22_2 : 1 ≤ k22_2 ∧ k22_2 ≤ 4001) (h_k22_3 : 1 ≤ k22_3 ∧ k22_3 ≤ 4001) (h_k22_4 : 1 ≤ k22_4 ∧ k22_4 ≤ 4001) (h_k22_5 : 1 ≤ k22_5 ∧ k22_5 ≤ 4001) (h_t : 0 ≤ t ∧ t ≤ 7) (h_y4 : 0 ≤ y4 ∧ y4 ≤ 7) (g_0 : t - 8 < 0) : jT xs d 325 17 0 [(0, (4, 0)), (1, (0, y4)), (2, (0, t)), (3, (4, 1))] [] [jzS_251, (100, [], [k22_0, k22_1, k22_2, k22_3, k22_4, k22_5]), (100, [], jS0), jgh, jgh, jgh, jgh, jgh, jgh, jgh, jgh, jgh, jgh, jgh, jgh, jgh, jgh] 0 0 (fun k v hsN => k = 0 ∧ v = (0, 1) ∧ hsN = [jzS_251, (100, [], [k22_0, k22_1, k22_2, k22_3, k22_4, k22_5]), (100, [], jS0), jgh, jgh, jgh, jgh, jgh, jgh, jgh, jgh, jgh, jgh, jgh, jgh, jgh, jgh] ++ []) := by
  refine jT_xiconst (k := 0) (pcN := 1) jIS_325_0 rfl ?_
  refine jT_xistore (v := (0, 0)) (LN := [(4, (0, 0)), (0, (4, 0)), (1, (0, y4)), (2, (0, t)), (3, (4, 1))]) (pcN := 3) jIS_325_1 rfl rfl rfl rfl ?_
  refine jT_xiconst (k := 0) (pcN := 4) jIS_325_3 rfl ?_
  refine jT_xistore (v := (0, 0)) (LN := [(5, (0, 0)), (4, (0, 0)), (0, (4, 0)), (1, (0, y4)), (2, (0, t)), (3, (4, 1))]) (pcN := 6) jIS_325_4 rfl rfl rfl rfl ?_
  refine jT_xiconst (k := 0) (pcN := 7) jIS_325_6 rfl ?_
  refine jT_xistore (v := (0, 0)) (LN := [(6, (0, 0)), (5, (0, 0)), (4, (0, 0)), (0, (4, 0)), (1, (0, y4)), (2, (0, t)), (3, (4, 1))]) (pcN := 9) jIS_325_7 rfl rfl rfl rfl ?_
  refine jT_xiconst (k := 0) (pcN := 10) jIS_325_9 rfl ?_
  refine jT_xistore (v := (0, 0)) (LN := [(7, (0, 0)), (6, (0, 0)), (5, (0, 0)), (4, (0, 0)), (0, (4, 0)), (1, (0, y4)), (2, (0, t)), (3, (4, 1))]) (pcN := 12) jIS_325_10 rfl rfl rfl rfl ?_
  refine jT_xiload (v := (0, 0)) (pcN := 14) jIS_325_12 rfl rfl rfl ?_
  refine jT_xbipush (k := 6) (pcN := 16) jIS_325_14 (by decide) rfl ?_
  refine jT_xicF (t := 104) (pcN := 19) jIS_325_16 rfl (by decide +kernel) rfl rfl ?_
  refine jT_xiload (v := (0, 0)) (pcN := 21) jIS_325_19 rfl rfl rfl ?_
  refine jT_xaload_n (v := (4, 0)) (pcN := 22) jIS_325_21 rfl rfl rfl ?_
  refine jT_xgetf (a := 0) (t := 1) (ci := 14) (fi := 1) (c := jzS_251) (v := (4, 2)) (pcN := 25) jIS_325_22 rfl rfl rfl rfl rfl rfl rfl ?_
  refine jT_xbipush (k := 7) (pcN := 27) jIS_325_25 (by decide) rfl ?_
  refine jT_xiload_n (v := (0, y4)) (pcN := 28) jIS_325_27 rfl rfl rfl ?_
  refine jT_ximul (x := 7) (y := y4) (z := 7 * y4) (pcN := 29) jIS_325_28 rfl (rfl) rfl ?_
  refine jT_xiload (v := (0, 0)) (pcN := 31) jIS_325_29 rfl rfl rfl ?_
  refine jT_xiadd (x := 7 * y4) (y := 0) (z := 7 * y4) (pcN := 32) jIS_325_31 rfl (by omega) rfl ?_
  refine jT_iald (x := 0) (a := 2) (j := (7 * y4).toNat) (fs := []) (X := jS0) (by rfl) (by rfl) (by rfl) (jw_nn (by omega) (by omega)) (jS0_r0 (by omega) (by omega)) ?_
  refine jT_eq (LN := [(7, (0, 0)), (6, (0, 0)), (5, (0, 0)), (4, (0, 0)), (0, (4, 0)), (1, (0, y4)), (2, (0, t)), (3, (4, 1))]) (stN := [(0, 0), (0, 0)]) (hsN := [jzS_251, (100, [], [k22_0, k22_1, k22_2, k22_3, k22_4, k22_5]), (100, [], jS0), jgh, jgh, jgh, jgh, jgh, jgh, jgh, jgh, jgh, jgh, jgh, jgh, jgh, jgh]) rfl rfl rfl ?_
  refine jT_xaload_n (v := (4, 1)) (pcN := 34) jIS_325_33 rfl rfl rfl ?_
  refine jT_xiload (v := (0, 0)) (pcN := 36) jIS_325_34 rfl rfl rfl ?_
  refine jT_iald (x := k22_0) (a := 1) (j := 0) (fs := []) (X := [k22_0, k22_1, k22_2, k22_3, k22_4, k22_5]) jIS_325_36 rfl rfl rfl rfl ?_
  refine jT_eq (LN := [(7, (0, 0)), (6, (0, 0)), (5, (0, 0)), (4, (0, 0)), (0, (4, 0)), (1, (0, y4)), (2, (0, t)), (3, (4, 1))]) (stN := [(0, k22_0), (0, 0), (0, 0)]) (hsN := [jzS_251, (100, [], [k22_0, k22_1, k22_2, k22_3, k22_4, k22_5]), (100, [], jS0), jgh, jgh, jgh, jgh, jgh, jgh, jgh, jgh, jgh, jgh, jgh, jgh, jgh, jgh]) rfl rfl rfl ?_
  refine jT_ximul (x := 0) (y := k22_0) (z := 0) (pcN := 38) jIS_325_37 rfl (by omega) rfl ?_
  refine jT_xiadd (x := 0) (y := 0) (z := 0) (pcN := 39) jIS_325_38 rfl (by decide) rfl ?_
  refine jT_xistore (v := (0, 0)) (LN := [(4, (0, 0)), (7, (0, 0)), (6, (0, 0)), (5, (0, 0)), (0, (4, 0)), (1, (0, y4)), (2, (0, t)), (3, (4, 1))]) (pcN := 41) jIS_325_39 rfl rfl rfl rfl ?_
  refine jT_xiload (v := (0, 0)) (pcN := 43) jIS_325_41 rfl rfl rfl ?_
  refine jT_xaload_n (v := (4, 0)) (pcN := 44) jIS_325_43 rfl rfl rfl ?_
  refine jT_xgetf (a := 0) (t := 1) (ci := 14) (fi := 1) (c := jzS_251) (v := (4, 2)) (pcN := 47) jIS_325_44 rfl rfl rfl rfl rfl rfl rfl ?_
  refine jT_xbipush (k := 7) (pcN := 49) jIS_325_47 (by decide) rfl ?_
  refine jT_xiload_n (v := (0, t)) (pcN := 50) jIS_325_49 rfl rfl rfl ?_
  refine jT_ximul (x := 7) (y := t) (z := 7 * t) (pcN := 51) jIS_325_50 rfl (rfl) rfl ?_
  refine jT_xiload (v := (0, 0)) (pcN := 53) jIS_325_51 rfl rfl rfl ?_
  refine jT_xiadd (x := 7 * t) (y := 0) (z := 7 * t) (pcN := 54) jIS_325_53 rfl (by omega) rfl ?_
  refine jT_iald (x := 0) (a := 2) (j := (7 * t).toNat) (fs := []) (X := jS0) (by rfl) (by rfl) (by rfl) (jw_nn (by omega) (by omega)) (jS0_r0 (by omega) (by omega)) ?_
  refine jT_eq (LN := [(4, (0, 0)), (7, (0, 0)), (6, (0, 0)), (5, (0, 0)), (0, (4, 0)), (1, (0, y4)), (2, (0, t)), (3, (4, 1))]) (stN := [(0, 0), (0, 0)]) (hsN := [jzS_251, (100, [], [k22_0, k22_1, k22_2, k22_3, k22_4, k22_5]), (100, [], jS0), jgh, jgh, jgh, jgh, jgh, jgh, jgh, jgh, jgh, jgh, jgh, jgh, jgh, jgh]) rfl rfl rfl ?_
  refine jT_xaload_n (v := (4, 1)) (pcN := 56) jIS_325_55 rfl rfl rfl ?_
  refine jT_xiload (v := (0, 0)) (pcN := 58) jIS_325_56 rfl rfl rfl ?_
  refine jT_iald (x := k22_0) (a := 1) (j := 0) (fs := []) (X := [k22_0, k22_1, k22_2, k22_3, k22_4, k22_5]) jIS_325_58 rfl rfl rfl rfl ?_
  refine jT_eq (LN := [(4, (0, 0)), (7, (0, 0)), (6, (0, 0)), (5, (0, 0)), (0, (4, 0)), (1, (0, y4)), (2, (0, t)), (3, (4, 1))]) (stN := [(0, k22_0), (0, 0), (0, 0)]) (hsN := [jzS_251, (100, [], [k22_0, k22_1, k22_2, k22_3, k22_4, k22_5]), (100, [], jS0), jgh, jgh, jgh, jgh, jgh, jgh, jgh, jgh, jgh, jgh, jgh, jgh, jgh, jgh]) rfl rfl rfl ?_
  refine jT_ximul (x := 0) (y := k22_0) (z := 0) (pcN := 60) jIS_325_59 rfl (by omega) rfl ?_
  refine jT_xiadd (x := 0) (y := 0) (z := 0) (pcN := 61) jIS_325_60 rfl (by decide) rfl ?_
  refine jT_xistore (v := (0, 0)) (LN := [(5, (0, 0)), (4, (0, 0)), (7, (0, 0)), (6, (0, 0)), (0, (4, 0)), (1, (0, y4)), (2, (0, t)), (3, (4, 1))]) (pcN := 63) jIS_325_61 rfl rfl rfl rfl ?_
  refine jT_xiload (v := (0, 0)) (pcN := 65) jIS_325_63 rfl rfl rfl ?_
  refine jT_xaload_n (v := (4, 0)) (pcN := 66) jIS_325_65 rfl rfl rfl ?_
  refine jT_xgetf (a := 0) (t := 1) (ci := 14) (fi := 1) (c := jzS_251) (v := (4, 2)) (pcN := 69) jIS_325_66 rfl rfl rfl rfl rfl rfl rfl ?_
  refine jT_xbipush (k := 7) (pcN := 71) jIS_325_69 (by decide) rfl ?_
  refine jT_xiload_n (v := (0, y4)) (pcN := 72) jIS_325_71 rfl rfl rfl ?_
  refine jT_ximul (x := 7) (y := y4) (z := 7 * y4) (pcN := 73) jIS_325_72 rfl (rfl) rfl ?_
  refine jT_xiload (v := (0, 0)) (pcN := 75) jIS_325_73 rfl rfl rfl ?_
  refine jT_xiadd (x := 7 * y4) (y := 0) (z := 7 * y4) (pcN := 76) jIS_325_75 rfl (by omega) rfl ?_
  refine jT_iald (x := 0) (a := 2) (j := (7 * y4).toNat) (fs := []) (X := jS0) (by rfl) (by rfl) (by rfl) (jw_nn (by omega) (by omega)) (jS0_r0 (by omega) (by omega)) ?_
  refine jT_eq (LN := [(5, (0, 0)), (4, (0, 0)), (7, (0, 0)), (6, (0, 0)), (0, (4, 0)), (1, (0, y4)), (2, (0, t)), (3, (4, 1))]) (stN := [(0, 0), (0, 0)]) (hsN := [jzS_251, (100, [], [k22_0, k22_1, k22_2, k22_3, k22_4, k22_5]), (100, [], jS0), jgh, jgh, jgh, jgh, jgh, jgh, jgh, jgh, jgh, jgh, jgh, jgh, jgh, jgh]) rfl rfl rfl ?_
  refine jT_xaload_n (v := (4, 0)) (pcN := 78) jIS_325_77 rfl rfl rfl ?_
  refine jT_xgetf (a := 0) (t := 1) (ci := 14) (fi := 1) (c := jzS_251) (v := (4, 2)) (pcN := 81) jIS_325_78 rfl rfl rfl rfl rfl rfl rfl ?_
  refine jT_xbipush (k := 7) (pcN := 83) jIS_325_81 (by decide) rfl ?_
  refine jT_xiload_n (v := (0, t)) (pcN := 84) jIS_325_83 rfl rfl rfl ?_
  refine jT_ximul (x := 7) (y := t) (z := 7 * t) (pcN := 85) jIS_325_84 rfl (rfl) rfl ?_
  refine jT_xiload (v := (0, 0)) (pcN := 87) jIS_325_85 rfl rfl rfl ?_
  refine jT_xiadd (x := 7 * t) (y := 0) (z := 7 * t) (pcN := 88) jIS_325_87 rfl (by omega) rfl ?_
  refine jT_iald (x := 0) (a := 2) (j := (7 * t).toNat) (fs := []) (X := jS0) (by rfl) (by rfl) (by rfl) (jw_nn (by omega) (by omega)) (jS0_r0 (by omega) (by omega)) ?_
  refine jT_eq (LN := [(5, (0, 0)), (4, (0, 0)), (7, (0, 0)), (6, (0, 0)), (0, (4, 0)), (1, (0, y4)), (2, (0, t)), (3, (4, 1))]) (stN := [(0, 0), (0, 0), (0, 0)]) (hsN := [jzS_251, (100, [], [k22_0, k22_1, k22_2, k22_3, k22_4, k22_5]), (100, [], jS0), jgh, jgh, jgh, jgh, jgh, jgh, jgh, jgh, jgh, jgh, jgh, jgh, jgh, jgh]) rfl rfl rfl ?_
  refine jT_xiadd (x := 0) (y := 0) (z := 0) (pcN := 90) jIS_325_89 rfl (by decide) rfl ?_
  refine jT_xaload_n (v := (4, 1)) (pcN := 91) jIS_325_90 rfl rfl rfl ?_
  refine jT_xiload (v := (0, 0)) (pcN := 93) jIS_325_91 rfl rfl rfl ?_
  refine jT_iald (x := k22_0) (a := 1) (j := 0) (fs := []) (X := [k22_0, k22_1, k22_2, k22_3, k22_4, k22_5]) jIS_325_93 rfl rfl rfl rfl ?_
  refine jT_eq (LN := [(5, (0, 0)), (4, (0, 0)), (7, (0, 0)), (6, (0, 0)), (0, (4, 0)), (1, (0, y4)), (2, (0, t)), (3, (4, 1))]) (stN := [(0, k22_0), (0, 0), (0, 0)]) (hsN := [jzS_251, (100, [], [k22_0, k22_1, k22_2, k22_3, k22_4, k22_5]), (100, [], jS0), jgh, jgh, jgh, jgh, jgh, jgh, jgh, jgh, jgh, jgh, jgh, jgh, jgh, jgh]) rfl rfl rfl ?_
  refine jT_ximul (x := 0) (y := k22_0) (z := 0) (pcN := 95) jIS_325_94 rfl (by omega) rfl ?_
  refine jT_xiadd (x := 0) (y := 0) (z := 0) (pcN := 96) jIS_325_95 rfl (by decide) rfl ?_
  refine jT_xistore (v := (0, 0)) (LN := [(6, (0, 0)), (5, (0, 0)), (4, (0, 0)), (7, (0, 0)), (0, (4, 0)), (1, (0, y4)), (2, (0, t)), (3, (4, 1))]) (pcN := 98) jIS_325_96 rfl rfl rfl rfl ?_
  refine jT_xiinc (x := 0) (z := 1) (LN := [(7, (0, 1)), (6, (0, 0)), (5, (0, 0)), (4, (0, 0)), (0, (4, 0)), (1, (0, y4)), (2, (0, t)), (3, (4, 1))]) (pcN := 101) jIS_325_98 rfl rfl (by decide) rfl rfl ?_
  refine jT_xgoto (pcN := 12) jIS_325_101 rfl ?_
  refine jT_xiload (v := (0, 1)) (pcN := 14) jIS_325_12 rfl rfl rfl ?_
  refine jT_xbipush (k := 6) (pcN := 16) jIS_325_14 (by decide) rfl ?_
  refine jT_xicF (t := 104) (pcN := 19) jIS_325_16 rfl (by decide +kernel) rfl rfl ?_
  refine jT_xiload (v := (0, 0)) (pcN := 21) jIS_325_19 rfl rfl rfl ?_
  refine jT_xaload_n (v := (4, 0)) (pcN := 22) jIS_325_21 rfl rfl rfl ?_
  refine jT_xgetf (a := 0) (t := 1) (ci := 14) (fi := 1) (c := jzS_251) (v := (4, 2)) (pcN := 25) jIS_325_22 rfl rfl rfl rfl rfl rfl rfl ?_
  refine jT_xbipush (k := 7) (pcN := 27) jIS_325_25 (by decide) rfl ?_
  refine jT_xiload_n (v := (0, y4)) (pcN := 28) jIS_325_27 rfl rfl rfl ?_
  refine jT_ximul (x := 7) (y := y4) (z := 7 * y4) (pcN := 29) jIS_325_28 rfl (rfl) rfl ?_
  refine jT_xiload (v := (0, 1)) (pcN := 31) jIS_325_29 rfl rfl rfl ?_
  refine jT_xiadd (x := 7 * y4) (y := 1) (z := 7 * y4 + 1) (pcN := 32) jIS_325_31 rfl (by omega) rfl ?_
  refine jT_iald (x := 0) (a := 2) (j := (7 * y4 + 1).toNat) (fs := []) (X := jS0) (by rfl) (by rfl) (by rfl) (jw_nn (by omega) (by omega)) (jS0_r1 (by omega) (by omega)) ?_
  refine jT_eq (LN := [(7, (0, 1)), (6, (0, 0)), (5, (0, 0)), (4, (0, 0)), (0, (4, 0)), (1, (0, y4)), (2, (0, t)), (3, (4, 1))]) (stN := [(0, 0), (0, 0)]) (hsN := [jzS_251, (100, [], [k22_0, k22_1, k22_2, k22_3, k22_4, k22_5]), (100, [], jS0), jgh, jgh, jgh, jgh, jgh, jgh, jgh, jgh, jgh, jgh, jgh, jgh, jgh, jgh]) rfl rfl rfl ?_
  refine jT_xaload_n (v := (4, 1)) (pcN := 34) jIS_325_33 rfl rfl rfl ?_
  refine jT_xiload (v := (0, 1)) (pcN := 36) jIS_325_34 rfl rfl rfl ?_
  refine jT_iald (x := k22_1) (a := 1) (j := 1) (fs := []) (X := [k22_0, k22_1, k22_2, k22_3, k22_4, k22_5]) jIS_325_36 rfl rfl rfl rfl ?_
  refine jT_eq (LN := [(7, (0, 1)), (6, (0, 0)), (5, (0, 0)), (4, (0, 0)), (0, (4, 0)), (1, (0, y4)), (2, (0, t)), (3, (4, 1))]) (stN := [(0, k22_1), (0, 0), (0, 0)]) (hsN := [jzS_251, (100, [], [k22_0, k22_1, k22_2, k22_3, k22_4, k22_5]), (100, [], jS0), jgh, jgh, jgh, jgh, jgh, jgh, jgh, jgh, jgh, jgh, jgh, jgh, jgh, jgh]) rfl rfl rfl ?_
  refine jT_ximul (x := 0) (y := k22_1) (z := 0) (pcN := 38) jIS_325_37 rfl (by omega) rfl ?_
  refine jT_xiadd (x := 0) (y := 0) (z := 0) (pcN := 39) jIS_325_38 rfl (by decide) rfl ?_
  refine jT_xistore (v := (0, 0)) (LN := [(4, (0, 0)), (7, (0, 1)), (6, (0, 0)), (5, (0, 0)), (0, (4, 0)), (1, (0, y4)), (2, (0, t)), (3, (4, 1))]) (pcN := 41) jIS_325_39 rfl rfl rfl rfl ?_
  refine jT_xiload (v := (0, 0)) (pcN := 43) jIS_325_41 rfl rfl rfl ?_
  refine jT_xaload_n (v := (4, 0)) (pcN := 44) jIS_325_43 rfl rfl rfl ?_
  refine jT_xgetf (a := 0) (t := 1) (ci := 14) (fi := 1) (c := jzS_251) (v := (4, 2)) (pcN := 47) jIS_325_44 rfl rfl rfl rfl rfl rfl rfl ?_
  refine jT_xbipush (k := 7) (pcN := 49) jIS_325_47 (by decide) rfl ?_
  refine jT_xiload_n (v := (0, t)) (pcN := 50) jIS_325_49 rfl rfl rfl ?_
  refine jT_ximul (x := 7) (y := t) (z := 7 * t) (pcN := 51) jIS_325_50 rfl (rfl) rfl ?_
  refine jT_xiload (v := (0, 1)) (pcN := 53) jIS_325_51 rfl rfl rfl ?_
  refine jT_xiadd (x := 7 * t) (y := 1) (z := 7 * t + 1) (pcN := 54) jIS_325_53 rfl (by omega) rfl ?_
  refine jT_iald (x := 0) (a := 2) (j := (7 * t + 1).toNat) (fs := []) (X := jS0) (by rfl) (by rfl) (by rfl) (jw_nn (by omega) (by omega)) (jS0_r1 (by omega) (by omega)) ?_
  refine jT_eq (LN := [(4, (0, 0)), (7, (0, 1)), (6, (0, 0)), (5, (0, 0)), (0, (4, 0)), (1, (0, y4)), (2, (0, t)), (3, (4, 1))]) (stN := [(0, 0), (0, 0)]) (hsN := [jzS_251, (100, [], [k22_0, k22_1, k22_2, k22_3, k22_4, k22_5]), (100, [], jS0), jgh, jgh, jgh, jgh, jgh, jgh, jgh, jgh, jgh, jgh, jgh, jgh, jgh, jgh]) rfl rfl rfl ?_
  refine jT_xaload_n (v := (4, 1)) (pcN := 56) jIS_325_55 rfl rfl rfl ?_
  refine jT_xiload (v := (0, 1)) (pcN := 58) jIS_325_56 rfl rfl rfl ?_
  refine jT_iald (x := k22_1) (a := 1) (j := 1) (fs := []) (X := [k22_0, k22_1, k22_2, k22_3, k22_4, k22_5]) jIS_325_58 rfl rfl rfl rfl ?_
  refine jT_eq (LN := [(4, (0, 0)), (7, (0, 1)), (6, (0, 0)), (5, (0, 0)), (0, (4, 0)), (1, (0, y4)), (2, (0, t)), (3, (4, 1))]) (stN := [(0, k22_1), (0, 0), (0, 0)]) (hsN := [jzS_251, (100, [], [k22_0, k22_1, k22_2, k22_3, k22_4, k22_5]), (100, [], jS0), jgh, jgh, jgh, jgh, jgh, jgh, jgh, jgh, jgh, jgh, jgh, jgh, jgh, jgh]) rfl rfl rfl ?_
  refine jT_ximul (x := 0) (y := k22_1) (z := 0) (pcN := 60) jIS_325_59 rfl (by omega) rfl ?_
  refine jT_xiadd (x := 0) (y := 0) (z := 0) (pcN := 61) jIS_325_60 rfl (by decide) rfl ?_
  refine jT_xistore (v := (0, 0)) (LN := [(5, (0, 0)), (4, (0, 0)), (7, (0, 1)), (6, (0, 0)), (0, (4, 0)), (1, (0, y4)), (2, (0, t)), (3, (4, 1))]) (pcN := 63) jIS_325_61 rfl rfl rfl rfl ?_
  refine jT_xiload (v := (0, 0)) (pcN := 65) jIS_325_63 rfl rfl rfl ?_
  refine jT_xaload_n (v := (4, 0)) (pcN := 66) jIS_325_65 rfl rfl rfl ?_
  refine jT_xgetf (a := 0) (t := 1) (ci := 14) (fi := 1) (c := jzS_251) (v := (4, 2)) (pcN := 69) jIS_325_66 rfl rfl rfl rfl rfl rfl rfl ?_
  refine jT_xbipush (k := 7) (pcN := 71) jIS_325_69 (by decide) rfl ?_
  refine jT_xiload_n (v := (0, y4)) (pcN := 72) jIS_325_71 rfl rfl rfl ?_
  refine jT_ximul (x := 7) (y := y4) (z := 7 * y4) (pcN := 73) jIS_325_72 rfl (rfl) rfl ?_
  refine jT_xiload (v := (0, 1)) (pcN := 75) jIS_325_73 rfl rfl rfl ?_
  refine jT_xiadd (x := 7 * y4) (y := 1) (z := 7 * y4 + 1) (pcN := 76) jIS_325_75 rfl (by omega) rfl ?_
  refine jT_iald (x := 0) (a := 2) (j := (7 * y4 + 1).toNat) (fs := []) (X := jS0) (by rfl) (by rfl) (by rfl) (jw_nn (by omega) (by omega)) (jS0_r1 (by omega) (by omega)) ?_
  refine jT_eq (LN := [(5, (0, 0)), (4, (0, 0)), (7, (0, 1)), (6, (0, 0)), (0, (4, 0)), (1, (0, y4)), (2, (0, t)), (3, (4, 1))]) (stN := [(0, 0), (0, 0)]) (hsN := [jzS_251, (100, [], [k22_0, k22_1, k22_2, k22_3, k22_4, k22_5]), (100, [], jS0), jgh, jgh, jgh, jgh, jgh, jgh, jgh, jgh, jgh, jgh, jgh, jgh, jgh, jgh]) rfl rfl rfl ?_
  refine jT_xaload_n (v := (4, 0)) (pcN := 78) jIS_325_77 rfl rfl rfl ?_
  refine jT_xgetf (a := 0) (t := 1) (ci := 14) (fi := 1) (c := jzS_251) (v := (4, 2)) (pcN := 81) jIS_325_78 rfl rfl rfl rfl rfl rfl rfl ?_
  refine jT_xbipush (k := 7) (pcN := 83) jIS_325_81 (by decide) rfl ?_
  refine jT_xiload_n (v := (0, t)) (pcN := 84) jIS_325_83 rfl rfl rfl ?_
  refine jT_ximul (x := 7) (y := t) (z := 7 * t) (pcN := 85) jIS_325_84 rfl (rfl) rfl ?_
  refine jT_xiload (v := (0, 1)) (pcN := 87) jIS_325_85 rfl rfl rfl ?_
  refine jT_xiadd (x := 7 * t) (y := 1) (z := 7 * t + 1) (pcN := 88) jIS_325_87 rfl (by omega) rfl ?_
  refine jT_iald (x := 0) (a := 2) (j := (7 * t + 1).toNat) (fs := []) (X := jS0) (by rfl) (by rfl) (by rfl) (jw_nn (by omega) (by omega)) (jS0_r1 (by omega) (by omega)) ?_
  refine jT_eq (LN := [(5, (0, 0)), (4, (0, 0)), (7, (0, 1)), (6, (0, 0)), (0, (4, 0)), (1, (0, y4)), (2, (0, t)), (3, (4, 1))]) (stN := [(0, 0), (0, 0), (0, 0)]) (hsN := [jzS_251, (100, [], [k22_0, k22_1, k22_2, k22_3, k22_4, k22_5]), (100, [], jS0), jgh, jgh, jgh, jgh, jgh, jgh, jgh, jgh, jgh, jgh, jgh, jgh, jgh, jgh]) rfl rfl rfl ?_
  refine jT_xiadd (x := 0) (y := 0) (z := 0) (pcN := 90) jIS_325_89 rfl (by decide) rfl ?_
  refine jT_xaload_n (v := (4, 1)) (pcN := 91) jIS_325_90 rfl rfl rfl ?_
  refine jT_xiload (v := (0, 1)) (pcN := 93) jIS_325_91 rfl rfl rfl ?_
  refine jT_iald (x := k22_1) (a := 1) (j := 1) (fs := []) (X := [k22_0, k22_1, k22_2, k22_3, k22_4, k22_5]) jIS_325_93 rfl rfl rfl rfl ?_
  refine jT_eq (LN := [(5, (0, 0)), (4, (0, 0)), (7, (0, 1)), (6, (0, 0)), (0, (4, 0)), (1, (0, y4)), (2, (0, t)), (3, (4, 1))]) (stN := [(0, k22_1), (0, 0), (0, 0)]) (hsN := [jzS_251, (100, [], [k22_0, k22_1, k22_2, k22_3, k22_4, k22_5]), (100, [], jS0), jgh, jgh, jgh, jgh, jgh, jgh, jgh, jgh, jgh, jgh, jgh, jgh, jgh, jgh]) rfl rfl rfl ?_
  refine jT_ximul (x := 0) (y := k22_1) (z := 0) (pcN := 95) jIS_325_94 rfl (by omega) rfl ?_
  refine jT_xiadd (x := 0) (y := 0) (z := 0) (pcN := 96) jIS_325_95 rfl (by decide) rfl ?_
  refine jT_xistore (v := (0, 0)) (LN := [(6, (0, 0)), (5, (0, 0)), (4, (0, 0)), (7, (0, 1)), (0, (4, 0)), (1, (0, y4)), (2, (0, t)), (3, (4, 1))]) (pcN := 98) jIS_325_96 rfl rfl rfl rfl ?_
  refine jT_xiinc (x := 1) (z := 2) (LN := [(7, (0, 2)), (6, (0, 0)), (5, (0, 0)), (4, (0, 0)), (0, (4, 0)), (1, (0, y4)), (2, (0, t)), (3, (4, 1))]) (pcN := 101) jIS_325_98 rfl rfl (by decide) rfl rfl ?_
  refine jT_xgoto (pcN := 12) jIS_325_101 rfl ?_
  refine jT_xiload (v := (0, 2)) (pcN := 14) jIS_325_12 rfl rfl rfl ?_
  refine jT_xbipush (k := 6) (pcN := 16) jIS_325_14 (by decide) rfl ?_
  refine jT_xicF (t := 104) (pcN := 19) jIS_325_16 rfl (by decide +kernel) rfl rfl ?_
  refine jT_xiload (v := (0, 0)) (pcN := 21) jIS_325_19 rfl rfl rfl ?_
  refine jT_xaload_n (v := (4, 0)) (pcN := 22) jIS_325_21 rfl rfl rfl ?_
  refine jT_xgetf (a := 0) (t := 1) (ci := 14) (fi := 1) (c := jzS_251) (v := (4, 2)) (pcN := 25) jIS_325_22 rfl rfl rfl rfl rfl rfl rfl ?_
  refine jT_xbipush (k := 7) (pcN := 27) jIS_325_25 (by decide) rfl ?_
  refine jT_xiload_n (v := (0, y4)) (pcN := 28) jIS_325_27 rfl rfl rfl ?_
  refine jT_ximul (x := 7) (y := y4) (z := 7 * y4) (pcN := 29) jIS_325_28 rfl (rfl) rfl ?_
  refine jT_xiload (v := (0, 2)) (pcN := 31) jIS_325_29 rfl rfl rfl ?_
  refine jT_xiadd (x := 7 * y4) (y := 2) (z := 7 * y4 + 2) (pcN := 32) jIS_325_31 rfl (by omega) rfl ?_
  refine jT_iald (x := 0) (a := 2) (j := (7 * y4 + 2).toNat) (fs := []) (X := jS0) (by rfl) (by rfl) (by rfl) (jw_nn (by omega) (by omega)) (jS0_r2 (by omega) (by omega)) ?_
  refine jT_eq (LN := [(7, (0, 2)), (6, (0, 0)), (5, (0, 0)), (4, (0, 0)), (0, (4, 0)), (1, (0, y4)), (2, (0, t)), (3, (4, 1))]) (stN := [(0, 0), (0, 0)]) (hsN := [jzS_251, (100, [], [k22_0, k22_1, k22_2, k22_3, k22_4, k22_5]), (100, [], jS0), jgh, jgh, jgh, jgh, jgh, jgh, jgh, jgh, jgh, jgh, jgh, jgh, jgh, jgh]) rfl rfl rfl ?_
  refine jT_xaload_n (v := (4, 1)) (pcN := 34) jIS_325_33 rfl rfl rfl ?_
  refine jT_xiload (v := (0, 2)) (pcN := 36) jIS_325_34 rfl rfl rfl ?_
  refine jT_iald (x := k22_2) (a := 1) (j := 2) (fs := []) (X := [k22_0, k22_1, k22_2, k22_3, k22_4, k22_5]) jIS_325_36 rfl rfl rfl rfl ?_
  refine jT_eq (LN := [(7, (0, 2)), (6, (0, 0)), (5, (0, 0)), (4, (0, 0)), (0, (4, 0)), (1, (0, y4)), (2, (0, t)), (3, (4, 1))]) (stN := [(0, k22_2), (0, 0), (0, 0)]) (hsN := [jzS_251, (100, [], [k22_0, k22_1, k22_2, k22_3, k22_4, k22_5]), (100, [], jS0), jgh, jgh, jgh, jgh, jgh, jgh, jgh, jgh, jgh, jgh, jgh, jgh, jgh, jgh]) rfl rfl rfl ?_
  refine jT_ximul (x := 0) (y := k22_2) (z := 0) (pcN := 38) jIS_325_37 rfl (by omega) rfl ?_
  refine jT_xiadd (x := 0) (y := 0) (z := 0) (pcN := 39) jIS_325_38 rfl (by decide) rfl ?_
  refine jT_xistore (v := (0, 0)) (LN := [(4, (0, 0)), (7, (0, 2)), (6, (0, 0)), (5, (0, 0)), (0, (4, 0)), (1, (0, y4)), (2, (0, t)), (3, (4, 1))]) (pcN := 41) jIS_325_39 rfl rfl rfl rfl ?_
  refine jT_xiload (v := (0, 0)) (pcN := 43) jIS_325_41 rfl rfl rfl ?_
  refine jT_xaload_n (v := (4, 0)) (pcN := 44) jIS_325_43 rfl rfl rfl ?_
  refine jT_xgetf (a := 0) (t := 1) (ci := 14) (fi := 1) (c := jzS_251) (v := (4, 2)) (pcN := 47) jIS_325_44 rfl rfl rfl rfl rfl rfl rfl ?_
  refine jT_xbipush (k := 7) (pcN := 49) jIS_325_47 (by decide) rfl ?_
  refine jT_xiload_n (v := (0, t)) (pcN := 50) jIS_325_49 rfl rfl rfl ?_
  refine jT_ximul (x := 7) (y := t) (z := 7 * t) (pcN := 51) jIS_325_50 rfl (rfl) rfl ?_
  refine jT_xiload (v := (0, 2)) (pcN := 53) jIS_325_51 rfl rfl rfl ?_
  refine jT_xiadd (x := 7 * t) (y := 2) (z := 7 * t + 2) (pcN := 54) jIS_325_53 rfl (by omega) rfl ?_
  refine jT_iald (x := 0) (a := 2) (j := (7 * t + 2).toNat) (fs := []) (X := jS0) (by rfl) (by rfl) (by rfl) (jw_nn (by omega) (by omega)) (jS0_r2 (by omega) (by omega)) ?_
  refine jT_eq (LN := [(4, (0, 0)), (7, (0, 2)), (6, (0, 0)), (5, (0, 0)), (0, (4, 0)), (1, (0, y4)), (2, (0, t)), (3, (4, 1))]) (stN := [(0, 0), (0, 0)]) (hsN := [jzS_251, (100, [], [k22_0, k22_1, k22_2, k22_3, k22_4, k22_5]), (100, [], jS0), jgh, jgh, jgh, jgh, jgh, jgh, jgh, jgh, jgh, jgh, jgh, jgh, jgh, jgh]) rfl rfl rfl ?_
  refine jT_xaload_n (v := (4, 1)) (pcN := 56) jIS_325_55 rfl rfl rfl ?_
  refine jT_xiload (v := (0, 2)) (pcN := 58) jIS_325_56 rfl rfl rfl ?_
  refine jT_iald (x := k22_2) (a := 1) (j := 2) (fs := []) (X := [k22_0, k22_1, k22_2, k22_3, k22_4, k22_5]) jIS_325_58 rfl rfl rfl rfl ?_
  refine jT_eq (LN := [(4, (0, 0)), (7, (0, 2)), (6, (0, 0)), (5, (0, 0)), (0, (4, 0)), (1, (0, y4)), (2, (0, t)), (3, (4, 1))]) (stN := [(0, k22_2), (0, 0), (0, 0)]) (hsN := [jzS_251, (100, [], [k22_0, k22_1, k22_2, k22_3, k22_4, k22_5]), (100, [], jS0), jgh, jgh, jgh, jgh, jgh, jgh, jgh, jgh, jgh, jgh, jgh, jgh, jgh, jgh]) rfl rfl rfl ?_
  refine jT_ximul (x := 0) (y := k22_2) (z := 0) (pcN := 60) jIS_325_59 rfl (by omega) rfl ?_
  refine jT_xiadd (x := 0) (y := 0) (z := 0) (pcN := 61) jIS_325_60 rfl (by decide) rfl ?_
  refine jT_xistore (v := (0, 0)) (LN := [(5, (0, 0)), (4, (0, 0)), (7, (0, 2)), (6, (0, 0)), (0, (4, 0)), (1, (0, y4)), (2, (0, t)), (3, (4, 1))]) (pcN := 63) jIS_325_61 rfl rfl rfl rfl ?_
  refine jT_xiload (v := (0, 0)) (pcN := 65) jIS_325_63 rfl rfl rfl ?_
  refine jT_xaload_n (v := (4, 0)) (pcN := 66) jIS_325_65 rfl rfl rfl ?_
  refine jT_xgetf (a := 0) (t := 1) (ci := 14) (fi := 1) (c := jzS_251) (v := (4, 2)) (pcN := 69) jIS_325_66 rfl rfl rfl rfl rfl rfl rfl ?_
  refine jT_xbipush (k := 7) (pcN := 71) jIS_325_69 (by decide) rfl ?_
  refine jT_xiload_n (v := (0, y4)) (pcN := 72) jIS_325_71 rfl rfl rfl ?_
  refine jT_ximul (x := 7) (y := y4) (z := 7 * y4) (pcN := 73) jIS_325_72 rfl (rfl) rfl ?_
  refine jT_xiload (v := (0, 2)) (pcN := 75) jIS_325_73 rfl rfl rfl ?_
  refine jT_xiadd (x := 7 * y4) (y := 2) (z := 7 * y4 + 2) (pcN := 76) jIS_325_75 rfl (by omega) rfl ?_
  refine jT_iald (x := 0) (a := 2) (j := (7 * y4 + 2).toNat) (fs := []) (X := jS0) (by rfl) (by rfl) (by rfl) (jw_nn (by omega) (by omega)) (jS0_r2 (by omega) (by omega)) ?_
  refine jT_eq (LN := [(5, (0, 0)), (4, (0, 0)), (7, (0, 2)), (6, (0, 0)), (0, (4, 0)), (1, (0, y4)), (2, (0, t)), (3, (4, 1))]) (stN := [(0, 0), (0, 0)]) (hsN := [jzS_251, (100, [], [k22_0, k22_1, k22_2, k22_3, k22_4, k22_5]), (100, [], jS0), jgh, jgh, jgh, jgh, jgh, jgh, jgh, jgh, jgh, jgh, jgh, jgh, jgh, jgh]) rfl rfl rfl ?_
  refine jT_xaload_n (v := (4, 0)) (pcN := 78) jIS_325_77 rfl rfl rfl ?_
  refine jT_xgetf (a := 0) (t := 1) (ci := 14) (fi := 1) (c := jzS_251) (v := (4, 2)) (pcN := 81) jIS_325_78 rfl rfl rfl rfl rfl rfl rfl ?_
  refine jT_xbipush (k := 7) (pcN := 83) jIS_325_81 (by decide) rfl ?_
  refine jT_xiload_n (v := (0, t)) (pcN := 84) jIS_325_83 rfl rfl rfl ?_
  refine jT_ximul (x := 7) (y := t) (z := 7 * t) (pcN := 85) jIS_325_84 rfl (rfl) rfl ?_
  refine jT_xiload (v := (0, 2)) (pcN := 87) jIS_325_85 rfl rfl rfl ?_
  refine jT_xiadd (x := 7 * t) (y := 2) (z := 7 * t + 2) (pcN := 88) jIS_325_87 rfl (by omega) rfl ?_
  refine jT_iald (x := 0) (a := 2) (j := (7 * t + 2).toNat) (fs := []) (X := jS0) (by rfl) (by rfl) (by rfl) (jw_nn (by omega) (by omega)) (jS0_r2 (by omega) (by omega)) ?_
  refine jT_eq (LN := [(5, (0, 0)), (4, (0, 0)), (7, (0, 2)), (6, (0, 0)), (0, (4, 0)), (1, (0, y4)), (2, (0, t)), (3, (4, 1))]) (stN := [(0, 0), (0, 0), (0, 0)]) (hsN := [jzS_251, (100, [], [k22_0, k22_1, k22_2, k22_3, k22_4, k22_5]), (100, [], jS0), jgh, jgh, jgh, jgh, jgh, jgh, jgh, jgh, jgh, jgh, jgh, jgh, jgh, jgh]) rfl rfl rfl ?_
  refine jT_xiadd (x := 0) (y := 0) (z := 0) (pcN := 90) jIS_325_89 rfl (by decide) rfl ?_
  refine jT_xaload_n (v := (4, 1)) (pcN := 91) jIS_325_90 rfl rfl rfl ?_
  refine jT_xiload (v := (0, 2)) (pcN := 93) jIS_325_91 rfl rfl rfl ?_
  refine jT_iald (x := k22_2) (a := 1) (j := 2) (fs := []) (X := [k22_0, k22_1, k22_2, k22_3, k22_4, k22_5]) jIS_325_93 rfl rfl rfl rfl ?_
  refine jT_eq (LN := [(5, (0, 0)), (4, (0, 0)), (7, (0, 2)), (6, (0, 0)), (0, (4, 0)), (1, (0, y4)), (2, (0, t)), (3, (4, 1))]) (stN := [(0, k22_2), (0, 0), (0, 0)]) (hsN := [jzS_251, (100, [], [k22_0, k22_1, k22_2, k22_3, k22_4, k22_5]), (100, [], jS0), jgh, jgh, jgh, jgh, jgh, jgh, jgh, jgh, jgh, jgh, jgh, jgh, jgh, jgh]) rfl rfl rfl ?_
  refine jT_ximul (x := 0) (y := k22_2) (z := 0) (pcN := 95) jIS_325_94 rfl (by omega) rfl ?_
  refine jT_xiadd (x := 0) (y := 0) (z := 0) (pcN := 96) jIS_325_95 rfl (by decide) rfl ?_
  refine jT_xistore (v := (0, 0)) (LN := [(6, (0, 0)), (5, (0, 0)), (4, (0, 0)), (7, (0, 2)), (0, (4, 0)), (1, (0, y4)), (2, (0, t)), (3, (4, 1))]) (pcN := 98) jIS_325_96 rfl rfl rfl rfl ?_
  refine jT_xiinc (x := 2) (z := 3) (LN := [(7, (0, 3)), (6, (0, 0)), (5, (0, 0)), (4, (0, 0)), (0, (4, 0)), (1, (0, y4)), (2, (0, t)), (3, (4, 1))]) (pcN := 101) jIS_325_98 rfl rfl (by decide) rfl rfl ?_
  refine jT_xgoto (pcN := 12) jIS_325_101 rfl ?_
  refine jT_xiload (v := (0, 3)) (pcN := 14) jIS_325_12 rfl rfl rfl ?_
  refine jT_xbipush (k := 6) (pcN := 16) jIS_325_14 (by decide) rfl ?_
  refine jT_xicF (t := 104) (pcN := 19) jIS_325_16 rfl (by decide +kernel) rfl rfl ?_
  refine jT_xiload (v := (0, 0)) (pcN := 21) jIS_325_19 rfl rfl rfl ?_
  refine jT_xaload_n (v := (4, 0)) (pcN := 22) jIS_325_21 rfl rfl rfl ?_
  refine jT_xgetf (a := 0) (t := 1) (ci := 14) (fi := 1) (c := jzS_251) (v := (4, 2)) (pcN := 25) jIS_325_22 rfl rfl rfl rfl rfl rfl rfl ?_
  refine jT_xbipush (k := 7) (pcN := 27) jIS_325_25 (by decide) rfl ?_
  refine jT_xiload_n (v := (0, y4)) (pcN := 28) jIS_325_27 rfl rfl rfl ?_
  refine jT_ximul (x := 7) (y := y4) (z := 7 * y4) (pcN := 29) jIS_325_28 rfl (rfl) rfl ?_
  refine jT_xiload (v := (0, 3)) (pcN := 31) jIS_325_29 rfl rfl rfl ?_
  refine jT_xiadd (x := 7 * y4) (y := 3) (z := 7 * y4 + 3) (pcN := 32) jIS_325_31 rfl (by omega) rfl ?_
  refine jT_iald (x := 0) (a := 2) (j := (7 * y4 + 3).toNat) (fs := []) (X := jS0) (by rfl) (by rfl) (by rfl) (jw_nn (by omega) (by omega)) (jS0_r3 (by omega) (by omega)) ?_
  refine jT_eq (LN := [(7, (0, 3)), (6, (0, 0)), (5, (0, 0)), (4, (0, 0)), (0, (4, 0)), (1, (0, y4)), (2, (0, t)), (3, (4, 1))]) (stN := [(0, 0), (0, 0)]) (hsN := [jzS_251, (100, [], [k22_0, k22_1, k22_2, k22_3, k22_4, k22_5]), (100, [], jS0), jgh, jgh, jgh, jgh, jgh, jgh, jgh, jgh, jgh, jgh, jgh, jgh, jgh, jgh]) rfl rfl rfl ?_
  refine jT_xaload_n (v := (4, 1)) (pcN := 34) jIS_325_33 rfl rfl rfl ?_
  refine jT_xiload (v := (0, 3)) (pcN := 36) jIS_325_34 rfl rfl rfl ?_
  refine jT_iald (x := k22_3) (a := 1) (j := 3) (fs := []) (X := [k22_0, k22_1, k22_2, k22_3, k22_4, k22_5]) jIS_325_36 rfl rfl rfl rfl ?_
  refine jT_eq (LN := [(7, (0, 3)), (6, (0, 0)), (5, (0, 0)), (4, (0, 0)), (0, (4, 0)), (1, (0, y4)), (2, (0, t)), (3, (4, 1))]) (stN := [(0, k22_3), (0, 0), (0, 0)]) (hsN := [jzS_251, (100, [], [k22_0, k22_1, k22_2, k22_3, k22_4, k22_5]), (100, [], jS0), jgh, jgh, jgh, jgh, jgh, jgh, jgh, jgh, jgh, jgh, jgh, jgh, jgh, jgh]) rfl rfl rfl ?_
  refine jT_ximul (x := 0) (y := k22_3) (z := 0) (pcN := 38) jIS_325_37 rfl (by omega) rfl ?_
  refine jT_xiadd (x := 0) (y := 0) (z := 0) (pcN := 39) jIS_325_38 rfl (by decide) rfl ?_
  refine jT_xistore (v := (0, 0)) (LN := [(4, (0, 0)), (7, (0, 3)), (6, (0, 0)), (5, (0, 0)), (0, (4, 0)), (1, (0, y4)), (2, (0, t)), (3, (4, 1))]) (pcN := 41) jIS_325_39 rfl rfl rfl rfl ?_
  refine jT_xiload (v := (0, 0)) (pcN := 43) jIS_325_41 rfl rfl rfl ?_
  refine jT_xaload_n (v := (4, 0)) (pcN := 44) jIS_325_43 rfl rfl rfl ?_
  refine jT_xgetf (a := 0) (t := 1) (ci := 14) (fi := 1) (c := jzS_251) (v := (4, 2)) (pcN := 47) jIS_325_44 rfl rfl rfl rfl rfl rfl rfl ?_
  refine jT_xbipush (k := 7) (pcN := 49) jIS_325_47 (by decide) rfl ?_
  refine jT_xiload_n (v := (0, t)) (pcN := 50) jIS_325_49 rfl rfl rfl ?_
  refine jT_ximul (x := 7) (y := t) (z := 7 * t) (pcN := 51) jIS_325_50 rfl (rfl) rfl ?_
  refine jT_xiload (v := (0, 3)) (pcN := 53) jIS_325_51 rfl rfl rfl ?_
  refine jT_xiadd (x := 7 * t) (y := 3) (z := 7 * t + 3) (pcN := 54) jIS_325_53 rfl (by omega) rfl ?_
  refine jT_iald (x := 0) (a := 2) (j := (7 * t + 3).toNat) (fs := []) (X := jS0) (by rfl) (by rfl) (by rfl) (jw_nn (by omega) (by omega)) (jS0_r3 (by omega) (by omega)) ?_
  refine jT_eq (LN := [(4, (0, 0)), (7, (0, 3)), (6, (0, 0)), (5, (0, 0)), (0, (4, 0)), (1, (0, y4)), (2, (0, t)), (3, (4, 1))]) (stN := [(0, 0), (0, 0)]) (hsN := [jzS_251, (100, [], [k22_0, k22_1, k22_2, k22_3, k22_4, k22_5]), (100, [], jS0), jgh, jgh, jgh, jgh, jgh, jgh, jgh, jgh, jgh, jgh, jgh, jgh, jgh, jgh]) rfl rfl rfl ?_
  refine jT_xaload_n (v := (4, 1)) (pcN := 56) jIS_325_55 rfl rfl rfl ?_
  refine jT_xiload (v := (0, 3)) (pcN := 58) jIS_325_56 rfl rfl rfl ?_
  refine jT_iald (x := k22_3) (a := 1) (j := 3) (fs := []) (X := [k22_0, k22_1, k22_2, k22_3, k22_4, k22_5]) jIS_325_58 rfl rfl rfl rfl ?_
  refine jT_eq (LN := [(4, (0, 0)), (7, (0, 3)), (6, (0, 0)), (5, (0, 0)), (0, (4, 0)), (1, (0, y4)), (2, (0, t)), (3, (4, 1))]) (stN := [(0, k22_3), (0, 0), (0, 0)]) (hsN := [jzS_251, (100, [], [k22_0, k22_1, k22_2, k22_3, k22_4, k22_5]), (100, [], jS0), jgh, jgh, jgh, jgh, jgh, jgh, jgh, jgh, jgh, jgh, jgh, jgh, jgh, jgh]) rfl rfl rfl ?_
  refine jT_ximul (x := 0) (y := k22_3) (z := 0) (pcN := 60) jIS_325_59 rfl (by omega) rfl ?_
  refine jT_xiadd (x := 0) (y := 0) (z := 0) (pcN := 61) jIS_325_60 rfl (by decide) rfl ?_
  refine jT_xistore (v := (0, 0)) (LN := [(5, (0, 0)), (4, (0, 0)), (7, (0, 3)), (6, (0, 0)), (0, (4, 0)), (1, (0, y4)), (2, (0, t)), (3, (4, 1))]) (pcN := 63) jIS_325_61 rfl rfl rfl rfl ?_
  refine jT_xiload (v := (0, 0)) (pcN := 65) jIS_325_63 rfl rfl rfl ?_
  refine jT_xaload_n (v := (4, 0)) (pcN := 66) jIS_325_65 rfl rfl rfl ?_
  refine jT_xgetf (a := 0) (t := 1) (ci := 14) (fi := 1) (c := jzS_251) (v := (4, 2)) (pcN := 69) jIS_325_66 rfl rfl rfl rfl rfl rfl rfl ?_
  refine jT_xbipush (k := 7) (pcN := 71) jIS_325_69 (by decide) rfl ?_
  refine jT_xiload_n (v := (0, y4)) (pcN := 72) jIS_325_71 rfl rfl rfl ?_
  refine jT_ximul (x := 7) (y := y4) (z := 7 * y4) (pcN := 73) jIS_325_72 rfl (rfl) rfl ?_
  refine jT_xiload (v := (0, 3)) (pcN := 75) jIS_325_73 rfl rfl rfl ?_
  refine jT_xiadd (x := 7 * y4) (y := 3) (z := 7 * y4 + 3) (pcN := 76) jIS_325_75 rfl (by omega) rfl ?_
  refine jT_iald (x := 0) (a := 2) (j := (7 * y4 + 3).toNat) (fs := []) (X := jS0) (by rfl) (by rfl) (by rfl) (jw_nn (by omega) (by omega)) (jS0_r3 (by omega) (by omega)) ?_
  refine jT_eq (LN := [(5, (0, 0)), (4, (0, 0)), (7, (0, 3)), (6, (0, 0)), (0, (4, 0)), (1, (0, y4)), (2, (0, t)), (3, (4, 1))]) (stN := [(0, 0), (0, 0)]) (hsN := [jzS_251, (100, [], [k22_0, k22_1, k22_2, k22_3, k22_4, k22_5]), (100, [], jS0), jgh, jgh, jgh, jgh, jgh, jgh, jgh, jgh, jgh, jgh, jgh, jgh, jgh, jgh]) rfl rfl rfl ?_
  refine jT_xaload_n (v := (4, 0)) (pcN := 78) jIS_325_77 rfl rfl rfl ?_
  refine jT_xgetf (a := 0) (t := 1) (ci := 14) (fi := 1) (c := jzS_251) (v := (4, 2)) (pcN := 81) jIS_325_78 rfl rfl rfl rfl rfl rfl rfl ?_
  refine jT_xbipush (k := 7) (pcN := 83) jIS_325_81 (by decide) rfl ?_
  refine jT_xiload_n (v := (0, t)) (pcN := 84) jIS_325_83 rfl rfl rfl ?_
  refine jT_ximul (x := 7) (y := t) (z := 7 * t) (pcN := 85) jIS_325_84 rfl (rfl) rfl ?_
  refine jT_xiload (v := (0, 3)) (pcN := 87) jIS_325_85 rfl rfl rfl ?_
  refine jT_xiadd (x := 7 * t) (y := 3) (z := 7 * t + 3) (pcN := 88) jIS_325_87 rfl (by omega) rfl ?_
  refine jT_iald (x := 0) (a := 2) (j := (7 * t + 3).toNat) (fs := []) (X := jS0) (by rfl) (by rfl) (by rfl) (jw_nn (by omega) (by omega)) (jS0_r3 (by omega) (by omega)) ?_
  refine jT_eq (LN := [(5, (0, 0)), (4, (0, 0)), (7, (0, 3)), (6, (0, 0)), (0, (4, 0)), (1, (0, y4)), (2, (0, t)), (3, (4, 1))]) (stN := [(0, 0), (0, 0), (0, 0)]) (hsN := [jzS_251, (100, [], [k22_0, k22_1, k22_2, k22_3, k22_4, k22_5]), (100, [], jS0), jgh, jgh, jgh, jgh, jgh, jgh, jgh, jgh, jgh, jgh, jgh, jgh, jgh, jgh]) rfl rfl rfl ?_
  refine jT_xiadd (x := 0) (y := 0) (z := 0) (pcN := 90) jIS_325_89 rfl (by decide) rfl ?_
  refine jT_xaload_n (v := (4, 1)) (pcN := 91) jIS_325_90 rfl rfl rfl ?_
  refine jT_xiload (v := (0, 3)) (pcN := 93) jIS_325_91 rfl rfl rfl ?_
  refine jT_iald (x := k22_3) (a := 1) (j := 3) (fs := []) (X := [k22_0, k22_1, k22_2, k22_3, k22_4, k22_5]) jIS_325_93 rfl rfl rfl rfl ?_
  refine jT_eq (LN := [(5, (0, 0)), (4, (0, 0)), (7, (0, 3)), (6, (0, 0)), (0, (4, 0)), (1, (0, y4)), (2, (0, t)), (3, (4, 1))]) (stN := [(0, k22_3), (0, 0), (0, 0)]) (hsN := [jzS_251, (100, [], [k22_0, k22_1, k22_2, k22_3, k22_4, k22_5]), (100, [], jS0), jgh, jgh, jgh, jgh, jgh, jgh, jgh, jgh, jgh, jgh, jgh, jgh, jgh, jgh]) rfl rfl rfl ?_
  refine jT_ximul (x := 0) (y := k22_3) (z := 0) (pcN := 95) jIS_325_94 rfl (by omega) rfl ?_
  refine jT_xiadd (x := 0) (y := 0) (z := 0) (pcN := 96) jIS_325_95 rfl (by decide) rfl ?_
  refine jT_xistore (v := (0, 0)) (LN := [(6, (0, 0)), (5, (0, 0)), (4, (0, 0)), (7, (0, 3)), (0, (4, 0)), (1, (0, y4)), (2, (0, t)), (3, (4, 1))]) (pcN := 98) jIS_325_96 rfl rfl rfl rfl ?_
  refine jT_xiinc (x := 3) (z := 4) (LN := [(7, (0, 4)), (6, (0, 0)), (5, (0, 0)), (4, (0, 0)), (0, (4, 0)), (1, (0, y4)), (2, (0, t)), (3, (4, 1))]) (pcN := 101) jIS_325_98 rfl rfl (by decide) rfl rfl ?_
  refine jT_xgoto (pcN := 12) jIS_325_101 rfl ?_
  refine jT_xiload (v := (0, 4)) (pcN := 14) jIS_325_12 rfl rfl rfl ?_
  refine jT_xbipush (k := 6) (pcN := 16) jIS_325_14 (by decide) rfl ?_
  refine jT_xicF (t := 104) (pcN := 19) jIS_325_16 rfl (by decide +kernel) rfl rfl ?_
  refine jT_xiload (v := (0, 0)) (pcN := 21) jIS_325_19 rfl rfl rfl ?_
  refine jT_xaload_n (v := (4, 0)) (pcN := 22) jIS_325_21 rfl rfl rfl ?_
  refine jT_xgetf (a := 0) (t := 1) (ci := 14) (fi := 1) (c := jzS_251) (v := (4, 2)) (pcN := 25) jIS_325_22 rfl rfl rfl rfl rfl rfl rfl ?_
  refine jT_xbipush (k := 7) (pcN := 27) jIS_325_25 (by decide) rfl ?_
  refine jT_xiload_n (v := (0, y4)) (pcN := 28) jIS_325_27 rfl rfl rfl ?_
  refine jT_ximul (x := 7) (y := y4) (z := 7 * y4) (pcN := 29) jIS_325_28 rfl (rfl) rfl ?_
  refine jT_xiload (v := (0, 4)) (pcN := 31) jIS_325_29 rfl rfl rfl ?_
  refine jT_xiadd (x := 7 * y4) (y := 4) (z := 7 * y4 + 4) (pcN := 32) jIS_325_31 rfl (by omega) rfl ?_
  refine jT_iald (x := 0) (a := 2) (j := (7 * y4 + 4).toNat) (fs := []) (X := jS0) (by rfl) (by rfl) (by rfl) (jw_nn (by omega) (by omega)) (jS0_r4 (by omega) (by omega)) ?_
  refine jT_eq (LN := [(7, (0, 4)), (6, (0, 0)), (5, (0, 0)), (4, (0, 0)), (0, (4, 0)), (1, (0, y4)), (2, (0, t)), (3, (4, 1))]) (stN := [(0, 0), (0, 0)]) (hsN := [jzS_251, (100, [], [k22_0, k22_1, k22_2, k22_3, k22_4, k22_5]), (100, [], jS0), jgh, jgh, jgh, jgh, jgh, jgh, jgh, jgh, jgh, jgh, jgh, jgh, jgh, jgh]) rfl rfl rfl ?_
  refine jT_xaload_n (v := (4, 1)) (pcN := 34) jIS_325_33 rfl rfl rfl ?_
  refine jT_xiload (v := (0, 4)) (pcN := 36) jIS_325_34 rfl rfl rfl ?_
  refine jT_iald (x := k22_4) (a := 1) (j := 4) (fs := []) (X := [k22_0, k22_1, k22_2, k22_3, k22_4, k22_5]) jIS_325_36 rfl rfl rfl rfl ?_
  refine jT_eq (LN := [(7, (0, 4)), (6, (0, 0)), (5, (0, 0)), (4, (0, 0)), (0, (4, 0)), (1, (0, y4)), (2, (0, t)), (3, (4, 1))]) (stN := [(0, k22_4), (0, 0), (0, 0)]) (hsN := [jzS_251, (100, [], [k22_0, k22_1, k22_2, k22_3, k22_4, k22_5]), (100, [], jS0), jgh, jgh, jgh, jgh, jgh, jgh, jgh, jgh, jgh, jgh, jgh, jgh, jgh, jgh]) rfl rfl rfl ?_
  refine jT_ximul (x := 0) (y := k22_4) (z := 0) (pcN := 38) jIS_325_37 rfl (by omega) rfl ?_
  refine jT_xiadd (x := 0) (y := 0) (z := 0) (pcN := 39) jIS_325_38 rfl (by decide) rfl ?_
  refine jT_xistore (v := (0, 0)) (LN := [(4, (0, 0)), (7, (0, 4)), (6, (0, 0)), (5, (0, 0)), (0, (4, 0)), (1, (0, y4)), (2, (0, t)), (3, (4, 1))]) (pcN := 41) jIS_325_39 rfl rfl rfl rfl ?_
  refine jT_xiload (v := (0, 0)) (pcN := 43) jIS_325_41 rfl rfl rfl ?_
  refine jT_xaload_n (v := (4, 0)) (pcN := 44) jIS_325_43 rfl rfl rfl ?_
  refine jT_xgetf (a := 0) (t := 1) (ci := 14) (fi := 1) (c := jzS_251) (v := (4, 2)) (pcN := 47) jIS_325_44 rfl rfl rfl rfl rfl rfl rfl ?_
  refine jT_xbipush (k := 7) (pcN := 49) jIS_325_47 (by decide) rfl ?_
  refine jT_xiload_n (v := (0, t)) (pcN := 50) jIS_325_49 rfl rfl rfl ?_
  refine jT_ximul (x := 7) (y := t) (z := 7 * t) (pcN := 51) jIS_325_50 rfl (rfl) rfl ?_
  refine jT_xiload (v := (0, 4)) (pcN := 53) jIS_325_51 rfl rfl rfl ?_
  refine jT_xiadd (x := 7 * t) (y := 4) (z := 7 * t + 4) (pcN := 54) jIS_325_53 rfl (by omega) rfl ?_
  refine jT_iald (x := 0) (a := 2) (j := (7 * t + 4).toNat) (fs := []) (X := jS0) (by rfl) (by rfl) (by rfl) (jw_nn (by omega) (by omega)) (jS0_r4 (by omega) (by omega)) ?_
  refine jT_eq (LN := [(4, (0, 0)), (7, (0, 4)), (6, (0, 0)), (5, (0, 0)), (0, (4, 0)), (1, (0, y4)), (2, (0, t)), (3, (4, 1))]) (stN := [(0, 0), (0, 0)]) (hsN := [jzS_251, (100, [], [k22_0, k22_1, k22_2, k22_3, k22_4, k22_5]), (100, [], jS0), jgh, jgh, jgh, jgh, jgh, jgh, jgh, jgh, jgh, jgh, jgh, jgh, jgh, jgh]) rfl rfl rfl ?_
  refine jT_xaload_n (v := (4, 1)) (pcN := 56) jIS_325_55 rfl rfl rfl ?_
  refine jT_xiload (v := (0, 4)) (pcN := 58) jIS_325_56 rfl rfl rfl ?_
  refine jT_iald (x := k22_4) (a := 1) (j := 4) (fs := []) (X := [k22_0, k22_1, k22_2, k22_3, k22_4, k22_5]) jIS_325_58 rfl rfl rfl rfl ?_
  refine jT_eq (LN := [(4, (0, 0)), (7, (0, 4)), (6, (0, 0)), (5, (0, 0)), (0, (4, 0)), (1, (0, y4)), (2, (0, t)), (3, (4, 1))]) (stN := [(0, k22_4), (0, 0), (0, 0)]) (hsN := [jzS_251, (100, [], [k22_0, k22_1, k22_2, k22_3, k22_4, k22_5]), (100, [], jS0), jgh, jgh, jgh, jgh, jgh, jgh, jgh, jgh, jgh, jgh, jgh, jgh, jgh, jgh]) rfl rfl rfl ?_
  refine jT_ximul (x := 0) (y := k22_4) (z := 0) (pcN := 60) jIS_325_59 rfl (by omega) rfl ?_
  refine jT_xiadd (x := 0) (y := 0) (z := 0) (pcN := 61) jIS_325_60 rfl (by decide) rfl ?_
  refine jT_xistore (v := (0, 0)) (LN := [(5, (0, 0)), (4, (0, 0)), (7, (0, 4)), (6, (0, 0)), (0, (4, 0)), (1, (0, y4)), (2, (0, t)), (3, (4, 1))]) (pcN := 63) jIS_325_61 rfl rfl rfl rfl ?_
  refine jT_xiload (v := (0, 0)) (pcN := 65) jIS_325_63 rfl rfl rfl ?_
  refine jT_xaload_n (v := (4, 0)) (pcN := 66) jIS_325_65 rfl rfl rfl ?_
  refine jT_xgetf (a := 0) (t := 1) (ci := 14) (fi := 1) (c := jzS_251) (v := (4, 2)) (pcN := 69) jIS_325_66 rfl rfl rfl rfl rfl rfl rfl ?_
  refine jT_xbipush (k := 7) (pcN := 71) jIS_325_69 (by decide) rfl ?_
  refine jT_xiload_n (v := (0, y4)) (pcN := 72) jIS_325_71 rfl rfl rfl ?_
  refine jT_ximul (x := 7) (y := y4) (z := 7 * y4) (pcN := 73) jIS_325_72 rfl (rfl) rfl ?_
  refine jT_xiload (v := (0, 4)) (pcN := 75) jIS_325_73 rfl rfl rfl ?_
  refine jT_xiadd (x := 7 * y4) (y := 4) (z := 7 * y4 + 4) (pcN := 76) jIS_325_75 rfl (by omega) rfl ?_
  refine jT_iald (x := 0) (a := 2) (j := (7 * y4 + 4).toNat) (fs := []) (X := jS0) (by rfl) (by rfl) (by rfl) (jw_nn (by omega) (by omega)) (jS0_r4 (by omega) (by omega)) ?_
  refine jT_eq (LN := [(5, (0, 0)), (4, (0, 0)), (7, (0, 4)), (6, (0, 0)), (0, (4, 0)), (1, (0, y4)), (2, (0, t)), (3, (4, 1))]) (stN := [(0, 0), (0, 0)]) (hsN := [jzS_251, (100, [], [k22_0, k22_1, k22_2, k22_3, k22_4, k22_5]), (100, [], jS0), jgh, jgh, jgh, jgh, jgh, jgh, jgh, jgh, jgh, jgh, jgh, jgh, jgh, jgh]) rfl rfl rfl ?_
  refine jT_xaload_n (v := (4, 0)) (pcN := 78) jIS_325_77 rfl rfl rfl ?_
  refine jT_xgetf (a := 0) (t := 1) (ci := 14) (fi := 1) (c := jzS_251) (v := (4, 2)) (pcN := 81) jIS_325_78 rfl rfl rfl rfl rfl rfl rfl ?_
  refine jT_xbipush (k := 7) (pcN := 83) jIS_325_81 (by decide) rfl ?_
  refine jT_xiload_n (v := (0, t)) (pcN := 84) jIS_325_83 rfl rfl rfl ?_
  refine jT_ximul (x := 7) (y := t) (z := 7 * t) (pcN := 85) jIS_325_84 rfl (rfl) rfl ?_
  refine jT_xiload (v := (0, 4)) (pcN := 87) jIS_325_85 rfl rfl rfl ?_
  refine jT_xiadd (x := 7 * t) (y := 4) (z := 7 * t + 4) (pcN := 88) jIS_325_87 rfl (by omega) rfl ?_
  refine jT_iald (x := 0) (a := 2) (j := (7 * t + 4).toNat) (fs := []) (X := jS0) (by rfl) (by rfl) (by rfl) (jw_nn (by omega) (by omega)) (jS0_r4 (by omega) (by omega)) ?_
  refine jT_eq (LN := [(5, (0, 0)), (4, (0, 0)), (7, (0, 4)), (6, (0, 0)), (0, (4, 0)), (1, (0, y4)), (2, (0, t)), (3, (4, 1))]) (stN := [(0, 0), (0, 0), (0, 0)]) (hsN := [jzS_251, (100, [], [k22_0, k22_1, k22_2, k22_3, k22_4, k22_5]), (100, [], jS0), jgh, jgh, jgh, jgh, jgh, jgh, jgh, jgh, jgh, jgh, jgh, jgh, jgh, jgh]) rfl rfl rfl ?_
  refine jT_xiadd (x := 0) (y := 0) (z := 0) (pcN := 90) jIS_325_89 rfl (by decide) rfl ?_
  refine jT_xaload_n (v := (4, 1)) (pcN := 91) jIS_325_90 rfl rfl rfl ?_
  refine jT_xiload (v := (0, 4)) (pcN := 93) jIS_325_91 rfl rfl rfl ?_
  refine jT_iald (x := k22_4) (a := 1) (j := 4) (fs := []) (X := [k22_0, k22_1, k22_2, k22_3, k22_4, k22_5]) jIS_325_93 rfl rfl rfl rfl ?_
  refine jT_eq (LN := [(5, (0, 0)), (4, (0, 0)), (7, (0, 4)), (6, (0, 0)), (0, (4, 0)), (1, (0, y4)), (2, (0, t)), (3, (4, 1))]) (stN := [(0, k22_4), (0, 0), (0, 0)]) (hsN := [jzS_251, (100, [], [k22_0, k22_1, k22_2, k22_3, k22_4, k22_5]), (100, [], jS0), jgh, jgh, jgh, jgh, jgh, jgh, jgh, jgh, jgh, jgh, jgh, jgh, jgh, jgh]) rfl rfl rfl ?_
  refine jT_ximul (x := 0) (y := k22_4) (z := 0) (pcN := 95) jIS_325_94 rfl (by omega) rfl ?_
  refine jT_xiadd (x := 0) (y := 0) (z := 0) (pcN := 96) jIS_325_95 rfl (by decide) rfl ?_
  refine jT_xistore (v := (0, 0)) (LN := [(6, (0, 0)), (5, (0, 0)), (4, (0, 0)), (7, (0, 4)), (0, (4, 0)), (1, (0, y4)), (2, (0, t)), (3, (4, 1))]) (pcN := 98) jIS_325_96 rfl rfl rfl rfl ?_
  refine jT_xiinc (x := 4) (z := 5) (LN := [(7, (0, 5)), (6, (0, 0)), (5, (0, 0)), (4, (0, 0)), (0, (4, 0)), (1, (0, y4)), (2, (0, t)), (3, (4, 1))]) (pcN := 101) jIS_325_98 rfl rfl (by decide) rfl rfl ?_
  refine jT_xgoto (pcN := 12) jIS_325_101 rfl ?_
  refine jT_xiload (v := (0, 5)) (pcN := 14) jIS_325_12 rfl rfl rfl ?_
  refine jT_xbipush (k := 6) (pcN := 16) jIS_325_14 (by decide) rfl ?_
  refine jT_xicF (t := 104) (pcN := 19) jIS_325_16 rfl (by decide +kernel) rfl rfl ?_
  refine jT_xiload (v := (0, 0)) (pcN := 21) jIS_325_19 rfl rfl rfl ?_
  refine jT_xaload_n (v := (4, 0)) (pcN := 22) jIS_325_21 rfl rfl rfl ?_
  refine jT_xgetf (a := 0) (t := 1) (ci := 14) (fi := 1) (c := jzS_251) (v := (4, 2)) (pcN := 25) jIS_325_22 rfl rfl rfl rfl rfl rfl rfl ?_
  refine jT_xbipush (k := 7) (pcN := 27) jIS_325_25 (by decide) rfl ?_
  refine jT_xiload_n (v := (0, y4)) (pcN := 28) jIS_325_27 rfl rfl rfl ?_
  refine jT_ximul (x := 7) (y := y4) (z := 7 * y4) (pcN := 29) jIS_325_28 rfl (rfl) rfl ?_
  refine jT_xiload (v := (0, 5)) (pcN := 31) jIS_325_29 rfl rfl rfl ?_
  refine jT_xiadd (x := 7 * y4) (y := 5) (z := 7 * y4 + 5) (pcN := 32) jIS_325_31 rfl (by omega) rfl ?_
  refine jT_iald (x := 0) (a := 2) (j := (7 * y4 + 5).toNat) (fs := []) (X := jS0) (by rfl) (by rfl) (by rfl) (jw_nn (by omega) (by omega)) (jS0_r5 (by omega) (by omega)) ?_
  refine jT_eq (LN := [(7, (0, 5)), (6, (0, 0)), (5, (0, 0)), (4, (0, 0)), (0, (4, 0)), (1, (0, y4)), (2, (0, t)), (3, (4, 1))]) (stN := [(0, 0), (0, 0)]) (hsN := [jzS_251, (100, [], [k22_0, k22_1, k22_2, k22_3, k22_4, k22_5]), (100, [], jS0), jgh, jgh, jgh, jgh, jgh, jgh, jgh, jgh, jgh, jgh, jgh, jgh, jgh, jgh]) rfl rfl rfl ?_
  refine jT_xaload_n (v := (4, 1)) (pcN := 34) jIS_325_33 rfl rfl rfl ?_
  refine jT_xiload (v := (0, 5)) (pcN := 36) jIS_325_34 rfl rfl rfl ?_
  refine jT_iald (x := k22_5) (a := 1) (j := 5) (fs := []) (X := [k22_0, k22_1, k22_2, k22_3, k22_4, k22_5]) jIS_325_36 rfl rfl rfl rfl ?_
  refine jT_eq (LN := [(7, (0, 5)), (6, (0, 0)), (5, (0, 0)), (4, (0, 0)), (0, (4, 0)), (1, (0, y4)), (2, (0, t)), (3, (4, 1))]) (stN := [(0, k22_5), (0, 0), (0, 0)]) (hsN := [jzS_251, (100, [], [k22_0, k22_1, k22_2, k22_3, k22_4, k22_5]), (100, [], jS0), jgh, jgh, jgh, jgh, jgh, jgh, jgh, jgh, jgh, jgh, jgh, jgh, jgh, jgh]) rfl rfl rfl ?_
  refine jT_ximul (x := 0) (y := k22_5) (z := 0) (pcN := 38) jIS_325_37 rfl (by omega) rfl ?_
  refine jT_xiadd (x := 0) (y := 0) (z := 0) (pcN := 39) jIS_325_38 rfl (by decide) rfl ?_
  refine jT_xistore (v := (0, 0)) (LN := [(4, (0, 0)), (7, (0, 5)), (6, (0, 0)), (5, (0, 0)), (0, (4, 0)), (1, (0, y4)), (2, (0, t)), (3, (4, 1))]) (pcN := 41) jIS_325_39 rfl rfl rfl rfl ?_
  refine jT_xiload (v := (0, 0)) (pcN := 43) jIS_325_41 rfl rfl rfl ?_
  refine jT_xaload_n (v := (4, 0)) (pcN := 44) jIS_325_43 rfl rfl rfl ?_
  refine jT_xgetf (a := 0) (t := 1) (ci := 14) (fi := 1) (c := jzS_251) (v := (4, 2)) (pcN := 47) jIS_325_44 rfl rfl rfl rfl rfl rfl rfl ?_
  refine jT_xbipush (k := 7) (pcN := 49) jIS_325_47 (by decide) rfl ?_
  refine jT_xiload_n (v := (0, t)) (pcN := 50) jIS_325_49 rfl rfl rfl ?_
  refine jT_ximul (x := 7) (y := t) (z := 7 * t) (pcN := 51) jIS_325_50 rfl (rfl) rfl ?_
  refine jT_xiload (v := (0, 5)) (pcN := 53) jIS_325_51 rfl rfl rfl ?_
  refine jT_xiadd (x := 7 * t) (y := 5) (z := 7 * t + 5) (pcN := 54) jIS_325_53 rfl (by omega) rfl ?_
  refine jT_iald (x := 0) (a := 2) (j := (7 * t + 5).toNat) (fs := []) (X := jS0) (by rfl) (by rfl) (by rfl) (jw_nn (by omega) (by omega)) (jS0_r5 (by omega) (by omega)) ?_
  refine jT_eq (LN := [(4, (0, 0)), (7, (0, 5)), (6, (0, 0)), (5, (0, 0)), (0, (4, 0)), (1, (0, y4)), (2, (0, t)), (3, (4, 1))]) (stN := [(0, 0), (0, 0)]) (hsN := [jzS_251, (100, [], [k22_0, k22_1, k22_2, k22_3, k22_4, k22_5]), (100, [], jS0), jgh, jgh, jgh, jgh, jgh, jgh, jgh, jgh, jgh, jgh, jgh, jgh, jgh, jgh]) rfl rfl rfl ?_
  refine jT_xaload_n (v := (4, 1)) (pcN := 56) jIS_325_55 rfl rfl rfl ?_
  refine jT_xiload (v := (0, 5)) (pcN := 58) jIS_325_56 rfl rfl rfl ?_
  refine jT_iald (x := k22_5) (a := 1) (j := 5) (fs := []) (X := [k22_0, k22_1, k22_2, k22_3, k22_4, k22_5]) jIS_325_58 rfl rfl rfl rfl ?_
  refine jT_eq (LN := [(4, (0, 0)), (7, (0, 5)), (6, (0, 0)), (5, (0, 0)), (0, (4, 0)), (1, (0, y4)), (2, (0, t)), (3, (4, 1))]) (stN := [(0, k22_5), (0, 0), (0, 0)]) (hsN := [jzS_251, (100, [], [k22_0, k22_1, k22_2, k22_3, k22_4, k22_5]), (100, [], jS0), jgh, jgh, jgh, jgh, jgh, jgh, jgh, jgh, jgh, jgh, jgh, jgh, jgh, jgh]) rfl rfl rfl ?_
  refine jT_ximul (x := 0) (y := k22_5) (z := 0) (pcN := 60) jIS_325_59 rfl (by omega) rfl ?_
  refine jT_xiadd (x := 0) (y := 0) (z := 0) (pcN := 61) jIS_325_60 rfl (by decide) rfl ?_
  refine jT_xistore (v := (0, 0)) (LN := [(5, (0, 0)), (4, (0, 0)), (7, (0, 5)), (6, (0, 0)), (0, (4, 0)), (1, (0, y4)), (2, (0, t)), (3, (4, 1))]) (pcN := 63) jIS_325_61 rfl rfl rfl rfl ?_
  refine jT_xiload (v := (0, 0)) (pcN := 65) jIS_325_63 rfl rfl rfl ?_
  refine jT_xaload_n (v := (4, 0)) (pcN := 66) jIS_325_65 rfl rfl rfl ?_
  refine jT_xgetf (a := 0) (t := 1) (ci := 14) (fi := 1) (c := jzS_251) (v := (4, 2)) (pcN := 69) jIS_325_66 rfl rfl rfl rfl rfl rfl rfl ?_
  refine jT_xbipush (k := 7) (pcN := 71) jIS_325_69 (by decide) rfl ?_
  refine jT_xiload_n (v := (0, y4)) (pcN := 72) jIS_325_71 rfl rfl rfl ?_
  refine jT_ximul (x := 7) (y := y4) (z := 7 * y4) (pcN := 73) jIS_325_72 rfl (rfl) rfl ?_
  refine jT_xiload (v := (0, 5)) (pcN := 75) jIS_325_73 rfl rfl rfl ?_
  refine jT_xiadd (x := 7 * y4) (y := 5) (z := 7 * y4 + 5) (pcN := 76) jIS_325_75 rfl (by omega) rfl ?_
  refine jT_iald (x := 0) (a := 2) (j := (7 * y4 + 5).toNat) (fs := []) (X := jS0) (by rfl) (by rfl) (by rfl) (jw_nn (by omega) (by omega)) (jS0_r5 (by omega) (by omega)) ?_
  refine jT_eq (LN := [(5, (0, 0)), (4, (0, 0)), (7, (0, 5)), (6, (0, 0)), (0, (4, 0)), (1, (0, y4)), (2, (0, t)), (3, (4, 1))]) (stN := [(0, 0), (0, 0)]) (hsN := [jzS_251, (100, [], [k22_0, k22_1, k22_2, k22_3, k22_4, k22_5]), (100, [], jS0), jgh, jgh, jgh, jgh, jgh, jgh, jgh, jgh, jgh, jgh, jgh, jgh, jgh, jgh]) rfl rfl rfl ?_
  refine jT_xaload_n (v := (4, 0)) (pcN := 78) jIS_325_77 rfl rfl rfl ?_
  refine jT_xgetf (a := 0) (t := 1) (ci := 14) (fi := 1) (c := jzS_251) (v := (4, 2)) (pcN := 81) jIS_325_78 rfl rfl rfl rfl rfl rfl rfl ?_
  refine jT_xbipush (k := 7) (pcN := 83) jIS_325_81 (by decide) rfl ?_
  refine jT_xiload_n (v := (0, t)) (pcN := 84) jIS_325_83 rfl rfl rfl ?_
  refine jT_ximul (x := 7) (y := t) (z := 7 * t) (pcN := 85) jIS_325_84 rfl (rfl) rfl ?_
  refine jT_xiload (v := (0, 5)) (pcN := 87) jIS_325_85 rfl rfl rfl ?_
  refine jT_xiadd (x := 7 * t) (y := 5) (z := 7 * t + 5) (pcN := 88) jIS_325_87 rfl (by omega) rfl ?_
  refine jT_iald (x := 0) (a := 2) (j := (7 * t + 5).toNat) (fs := []) (X := jS0) (by rfl) (by rfl) (by rfl) (jw_nn (by omega) (by omega)) (jS0_r5 (by omega) (by omega)) ?_
  refine jT_eq (LN := [(5, (0, 0)), (4, (0, 0)), (7, (0, 5)), (6, (0, 0)), (0, (4, 0)), (1, (0, y4)), (2, (0, t)), (3, (4, 1))]) (stN := [(0, 0), (0, 0), (0, 0)]) (hsN := [jzS_251, (100, [], [k22_0, k22_1, k22_2, k22_3, k22_4, k22_5]), (100, [], jS0), jgh, jgh, jgh, jgh, jgh, jgh, jgh, jgh, jgh, jgh, jgh, jgh, jgh, jgh]) rfl rfl rfl ?_
  refine jT_xiadd (x := 0) (y := 0) (z := 0) (pcN := 90) jIS_325_89 rfl (by decide) rfl ?_
  refine jT_xaload_n (v := (4, 1)) (pcN := 91) jIS_325_90 rfl rfl rfl ?_
  refine jT_xiload (v := (0, 5)) (pcN := 93) jIS_325_91 rfl rfl rfl ?_
  refine jT_iald (x := k22_5) (a := 1) (j := 5) (fs := []) (X := [k22_0, k22_1, k22_2, k22_3, k22_4, k22_5]) jIS_325_93 rfl rfl rfl rfl ?_
  refine jT_eq (LN := [(5, (0, 0)), (4, (0, 0)), (7, (0, 5)), (6, (0, 0)), (0, (4, 0)), (1, (0, y4)), (2, (0, t)), (3, (4, 1))]) (stN := [(0, k22_5), (0, 0), (0, 0)]) (hsN := [jzS_251, (100, [], [k22_0, k22_1, k22_2, k22_3, k22_4, k22_5]), (100, [], jS0), jgh, jgh, jgh, jgh, jgh, jgh, jgh, jgh, jgh, jgh, jgh, jgh, jgh, jgh]) rfl rfl rfl ?_
  refine jT_ximul (x := 0) (y := k22_5) (z := 0) (pcN := 95) jIS_325_94 rfl (by omega) rfl ?_
  refine jT_xiadd (x := 0) (y := 0) (z := 0) (pcN := 96) jIS_325_95 rfl (by decide) rfl ?_
  refine jT_xistore (v := (0, 0)) (LN := [(6, (0, 0)), (5, (0, 0)), (4, (0, 0)), (7, (0, 5)), (0, (4, 0)), (1, (0, y4)), (2, (0, t)), (3, (4, 1))]) (pcN := 98) jIS_325_96 rfl rfl rfl rfl ?_
  refine jT_xiinc (x := 5) (z := 6) (LN := [(7, (0, 6)), (6, (0, 0)), (5, (0, 0)), (4, (0, 0)), (0, (4, 0)), (1, (0, y4)), (2, (0, t)), (3, (4, 1))]) (pcN := 101) jIS_325_98 rfl rfl (by decide) rfl rfl ?_
  refine jT_xgoto (pcN := 12) jIS_325_101 rfl ?_
  refine jT_xiload (v := (0, 6)) (pcN := 14) jIS_325_12 rfl rfl rfl ?_
  refine jT_xbipush (k := 6) (pcN := 16) jIS_325_14 (by decide) rfl ?_
  refine jT_xicT (pcN := 104) jIS_325_16 rfl (by decide +kernel) rfl ?_
  refine jT_xiload (v := (0, 0)) (pcN := 106) jIS_325_104 rfl rfl rfl ?_
  refine jT_xiload (v := (0, 0)) (pcN := 108) jIS_325_106 rfl rfl rfl ?_
  refine jT_xiload (v := (0, 0)) (pcN := 110) jIS_325_108 rfl rfl rfl ?_
  refine jT_xiadd (x := 0) (y := 0) (z := 0) (pcN := 111) jIS_325_110 rfl (by decide) rfl ?_
  refine jT_xicF (t := 118) (pcN := 114) jIS_325_111 rfl (by decide +kernel) rfl rfl ?_
  refine jT_xiconst (k := 1) (pcN := 115) jIS_325_114 rfl ?_
  refine jT_xgoto (pcN := 119) jIS_325_115 rfl ?_
  exact jT_ret rfl (by decide) (by show 17 ≤ 17; omega) (by omega) (by omega) ⟨rfl, rfl, rfl⟩
def jpS_522 : List JC := [jzS_244, (100, [], jS0), jgh, jgh, jgh, jgh, (130, [], [16, 17, 18, 19, 20, 21]), jgh, jgh, jgh, jgh, jgh, jgh, jgh, jgh, jgh, (100, [], (jenc (jlg 0))), (100, [], (jenc (jlg 1))), (100, [], (jenc (jlg 2))), (100, [], (jenc (jlg 3))), (100, [], (jenc (jlg 4))), (100, [], (jenc (jlg 5))), (100, [], [0, 0, 0, 0, 0, 0])]
theorem jIS_324_9 : jmI (jm 324) 9 = (.iload_n 3, 1) := by rfl
theorem jIS_324_10 : jmI (jm 324) 10 = (.bipush 60, 2) := by rfl
theorem jIS_324_12 : jmI (jm 324) 12 = (.if_icmp .gt 124, 3) := by rfl
theorem jIS_324_15 : jmI (jm 324) 15 = (.iconst 0, 1) := by rfl
theorem jIS_324_16 : jmI (jm 324) 16 = (.istore 4, 2) := by rfl
theorem jIS_324_18 : jmI (jm 324) 18 = (.iload 4, 2) := by rfl
theorem jIS_324_20 : jmI (jm 324) 20 = (.bipush 6, 2) := by rfl
theorem jIS_324_22 : jmI (jm 324) 22 = (.if_icmp .ge 20, 3) := by rfl
theorem jIS_324_25 : jmI (jm 324) 25 = (.aload_n 2, 1) := by rfl
theorem jIS_324_26 : jmI (jm 324) 26 = (.iload 4, 2) := by rfl
theorem jIS_324_28 : jmI (jm 324) 28 = (.aload_n 0, 1) := by rfl
theorem jIS_324_29 : jmI (jm 324) 29 = (.iload_n 3, 1) := by rfl
theorem jIS_324_30 : jmI (jm 324) 30 = (.iload 4, 2) := by rfl
theorem jIS_324_36 : jmI (jm 324) 36 = (.iinc 4 1, 3) := by rfl
theorem jIS_324_39 : jmI (jm 324) 39 = (.goto (-21), 3) := by rfl
theorem jIS_324_42 : jmI (jm 324) 42 = (.iconst 0, 1) := by rfl
theorem jIS_324_43 : jmI (jm 324) 43 = (.istore 4, 2) := by rfl
theorem jIS_324_45 : jmI (jm 324) 45 = (.iload 4, 2) := by rfl
theorem jIS_324_47 : jmI (jm 324) 47 = (.bipush 8, 2) := by rfl
theorem jIS_324_49 : jmI (jm 324) 49 = (.if_icmp .ge 81, 3) := by rfl
theorem jIS_324_52 : jmI (jm 324) 52 = (.iconst 0, 1) := by rfl
theorem jIS_324_53 : jmI (jm 324) 53 = (.istore 5, 2) := by rfl
theorem jIS_324_55 : jmI (jm 324) 55 = (.iload 5, 2) := by rfl
theorem jIS_324_57 : jmI (jm 324) 57 = (.bipush 8, 2) := by rfl
theorem jIS_324_59 : jmI (jm 324) 59 = (.if_icmp .ge 65, 3) := by rfl
theorem jIS_324_62 : jmI (jm 324) 62 = (.iload_n 1, 1) := by rfl
theorem jIS_324_63 : jmI (jm 324) 63 = (.ifCond .eq 53, 3) := by rfl
theorem jIS_324_66 : jmI (jm 324) 66 = (.aload_n 0, 1) := by rfl
theorem jIS_324_67 : jmI (jm 324) 67 = (.getfield 9, 3) := by rfl
theorem jIS_324_70 : jmI (jm 324) 70 = (.bipush 7, 2) := by rfl
theorem jIS_324_72 : jmI (jm 324) 72 = (.iload 4, 2) := by rfl
theorem jIS_324_74 : jmI (jm 324) 74 = (.imul, 1) := by rfl
theorem jIS_324_75 : jmI (jm 324) 75 = (.bipush 6, 2) := by rfl
theorem jIS_324_77 : jmI (jm 324) 77 = (.iadd, 1) := by rfl
theorem jIS_324_78 : jmI (jm 324) 78 = (.iaload, 1) := by rfl
theorem jIS_324_79 : jmI (jm 324) 79 = (.iconst 1, 1) := by rfl
theorem jIS_324_80 : jmI (jm 324) 80 = (.if_icmp .gt 32, 3) := by rfl
theorem jIS_324_83 : jmI (jm 324) 83 = (.aload_n 0, 1) := by rfl
theorem jIS_324_84 : jmI (jm 324) 84 = (.getfield 9, 3) := by rfl
theorem jIS_324_87 : jmI (jm 324) 87 = (.bipush 7, 2) := by rfl
theorem jIS_324_89 : jmI (jm 324) 89 = (.iload 5, 2) := by rfl
theorem jIS_324_91 : jmI (jm 324) 91 = (.imul, 1) := by rfl
theorem jIS_324_92 : jmI (jm 324) 92 = (.bipush 6, 2) := by rfl
theorem jIS_324_94 : jmI (jm 324) 94 = (.iadd, 1) := by rfl
theorem jIS_324_95 : jmI (jm 324) 95 = (.iaload, 1) := by rfl
theorem jIS_324_96 : jmI (jm 324) 96 = (.iconst 1, 1) := by rfl
theorem jIS_324_97 : jmI (jm 324) 97 = (.if_icmp .gt 15, 3) := by rfl
theorem jIS_324_100 : jmI (jm 324) 100 = (.aload_n 0, 1) := by rfl
theorem jIS_324_101 : jmI (jm 324) 101 = (.iload 4, 2) := by rfl
theorem jIS_324_103 : jmI (jm 324) 103 = (.iload 5, 2) := by rfl
theorem jIS_324_105 : jmI (jm 324) 105 = (.aload_n 2, 1) := by rfl
theorem jIS_324_109 : jmI (jm 324) 109 = (.ifCond .eq 7, 3) := by rfl
theorem jIS_324_112 : jmI (jm 324) 112 = (.iconst 1, 1) := by rfl
theorem jIS_324_113 : jmI (jm 324) 113 = (.goto 4, 3) := by rfl
theorem jIS_324_117 : jmI (jm 324) 117 = (.istore_n 1, 1) := by rfl
theorem jIS_324_118 : jmI (jm 324) 118 = (.iinc 5 1, 3) := by rfl
theorem jIS_324_121 : jmI (jm 324) 121 = (.goto (-66), 3) := by rfl
theorem jSl_gc_240 {xs : List Int} {d b1 b2 : Nat} {Q : Nat → JV → List JC → Prop} (hd : 1 < d) {y3 y4 k22_0 k22_1 k22_2 k22_3 k22_4 k22_5 : Int} (h_y3 : 1 ≤ y3 ∧ y3 ≤ 60) (h_y4 : 0 ≤ y4 ∧ y4 ≤ 7) (h_k22_0 : 1 ≤ k22_0 ∧ k22_0 ≤ 4001) (h_k22_1 : 1 ≤ k22_1 ∧ k22_1 ≤ 4001) (h_k22_2 : 1 ≤ k22_2 ∧ k22_2 ≤ 4001) (h_k22_3 : 1 ≤ k22_3 ∧ k22_3 ≤ 4001) (h_k22_4 : 1 ≤ k22_4 ∧ k22_4 ≤ 4001) (h_k22_5 : 1 ≤ k22_5 ∧ k22_5 ≤ 4001) (h : jT xs d 324 22 124 [(1, (0, 1)), (4, (0, y4)), (3, (0, y3)), (2, (4, 22)), (0, (4, 0))] [] [jzS_244, (100, [], jS0), jgh, jgh, jgh, jgh, (130, [], [16, 17, 18, 19, 20, 21]), jgh, jgh, jgh, jgh, jgh, jgh, jgh, jgh, jgh, (100, [], (jenc (jlg 0))), (100, [], (jenc (jlg 1))), (100, [], (jenc (jlg 2))), (100, [], (jenc (jlg 3))), (100, [], (jenc (jlg 4))), (100, [], (jenc (jlg 5))), (100, [], [k22_0, k22_1, k22_2, k22_3, k22_4, k22_5])] b1 b2 Q) : ∀ (q : Nat) (t : Int), 0 ≤ t → t + (q : Int) = 8 → jT xs d 324 22 55 [(5, (0, t)), (1, (0, 1)), (4, (0, y4)), (3, (0, y3)), (2, (4, 22)), (0, (4, 0))] [] [jzS_244, (100, [], jS0), jgh, jgh, jgh, jgh, (130, [], [16, 17, 18, 19, 20, 21]), jgh, jgh, jgh, jgh, jgh, jgh, jgh, jgh, jgh, (100, [], (jenc (jlg 0))), (100, [], (jenc (jlg 1))), (100, [], (jenc (jlg 2))), (100, [], (jenc (jlg 3))), (100, [], (jenc (jlg 4))), (100, [], (jenc (jlg 5))), (100, [], [k22_0, k22_1, k22_2, k22_3, k22_4, k22_5])] (b1 + 0 * q) (b2 + 0 * q) Q := by
  intro q
  induction q with
  | zero =>
    intro t h0 ht
    have e : t = 8 := by omega
    subst t
    refine jT.mono (b1 := b1) (b2 := b2) ?_ (Nat.le_refl _) (by omega) (by omega) (fun _ _ _ z => z)
    refine jT_xiload (v := (0, 8)) (pcN := 57) jIS_324_55 rfl rfl rfl ?_
    refine jT_xbipush (k := 8) (pcN := 59) jIS_324_57 (by decide) rfl ?_
    refine jT_xicT (pcN := 124) jIS_324_59 rfl (by decide +kernel) rfl ?_
    refine jT_loc (LN := [(1, (0, 1)), (4, (0, y4)), (3, (0, y3)), (2, (4, 22)), (0, (4, 0))]) (by show List.Nodup [1, 4, 3, 2, 0]; decide) (by intro q hq; simp only [List.mem_cons, List.not_mem_nil, or_false] at hq; rcases hq with rfl | rfl | rfl | rfl | rfl <;> rfl) ?_
    exact h
  | succ q ih =>
    intro t h0 ht
    have h_t : 0 ≤ t ∧ t ≤ 7 := by omega
    have g_0 : t - 8 < 0 := by omega
    refine jT.mono (b1 := b1 + 0 * q + 0) (b2 := b2 + 0 * q + 0) ?_ (Nat.le_refl _) (by omega) (by omega) (fun _ _ _ z => z)
    refine jT_xiload (v := (0, t)) (pcN := 57) jIS_324_55 rfl rfl rfl ?_
    refine jT_xbipush (k := 8) (pcN := 59) jIS_324_57 (by decide) rfl ?_
    refine jT_icF (a := t) (b := 8) (t := 124) (by rfl) (by rfl) (by rfl) (jw_idd (by omega) (by omega)) (jw_idd (by omega) (by omega)) (by simp only [jcP] <;> omega) ?_
    refine jT_xiload_n (v := (0, 1)) (pcN := 63) jIS_324_62 rfl rfl rfl ?_
    refine jT_xifF (t := 116) (pcN := 66) jIS_324_63 rfl (by decide +kernel) rfl rfl ?_
    refine jT_xaload_n (v := (4, 0)) (pcN := 67) jIS_324_66 rfl rfl rfl ?_
    refine jT_xgetf (a := 0) (t := 1) (ci := 14) (fi := 1) (c := jzS_244) (v := (4, 1)) (pcN := 70) jIS_324_67 rfl rfl rfl rfl rfl rfl rfl ?_
    refine jT_xbipush (k := 7) (pcN := 72) jIS_324_70 (by decide) rfl ?_
    refine jT_xiload (v := (0, y4)) (pcN := 74) jIS_324_72 rfl rfl rfl ?_
    refine jT_ximul (x := 7) (y := y4) (z := 7 * y4) (pcN := 75) jIS_324_74 rfl (rfl) rfl ?_
    refine jT_xbipush (k := 6) (pcN := 77) jIS_324_75 (by decide) rfl ?_
    refine jT_xiadd (x := 7 * y4) (y := 6) (z := 7 * y4 + 6) (pcN := 78) jIS_324_77 rfl (by omega) rfl ?_
    refine jT_iald (x := 1) (a := 1) (j := (7 * y4 + 6).toNat) (fs := []) (X := jS0) (by rfl) (by rfl) (by rfl) (jw_nn (by omega) (by omega)) (jS0_r6 (by omega) (by omega)) ?_
    refine jT_eq (LN := [(5, (0, t)), (1, (0, 1)), (4, (0, y4)), (3, (0, y3)), (2, (4, 22)), (0, (4, 0))]) (stN := [(0, 1)]) (hsN := [jzS_244, (100, [], jS0), jgh, jgh, jgh, jgh, (130, [], [16, 17, 18, 19, 20, 21]), jgh, jgh, jgh, jgh, jgh, jgh, jgh, jgh, jgh, (100, [], (jenc (jlg 0))), (100, [], (jenc (jlg 1))), (100, [], (jenc (jlg 2))), (100, [], (jenc (jlg 3))), (100, [], (jenc (jlg 4))), (100, [], (jenc (jlg 5))), (100, [], [k22_0, k22_1, k22_2, k22_3, k22_4, k22_5])]) rfl rfl rfl ?_
    refine jT_xiconst (k := 1) (pcN := 80) jIS_324_79 rfl ?_
    refine jT_xicF (t := 112) (pcN := 83) jIS_324_80 rfl (by decide +kernel) rfl rfl ?_
    refine jT_xaload_n (v := (4, 0)) (pcN := 84) jIS_324_83 rfl rfl rfl ?_
    refine jT_xgetf (a := 0) (t := 1) (ci := 14) (fi := 1) (c := jzS_244) (v := (4, 1)) (pcN := 87) jIS_324_84 rfl rfl rfl rfl rfl rfl rfl ?_
    refine jT_xbipush (k := 7) (pcN := 89) jIS_324_87 (by decide) rfl ?_
    refine jT_xiload (v := (0, t)) (pcN := 91) jIS_324_89 rfl rfl rfl ?_
    refine jT_ximul (x := 7) (y := t) (z := 7 * t) (pcN := 92) jIS_324_91 rfl (rfl) rfl ?_
    refine jT_xbipush (k := 6) (pcN := 94) jIS_324_92 (by decide) rfl ?_
    refine jT_xiadd (x := 7 * t) (y := 6) (z := 7 * t + 6) (pcN := 95) jIS_324_94 rfl (by omega) rfl ?_
    refine jT_iald (x := 1) (a := 1) (j := (7 * t + 6).toNat) (fs := []) (X := jS0) (by rfl) (by rfl) (by rfl) (jw_nn (by omega) (by omega)) (jS0_r6 (by omega) (by omega)) ?_
    refine jT_eq (LN := [(5, (0, t)), (1, (0, 1)), (4, (0, y4)), (3, (0, y3)), (2, (4, 22)), (0, (4, 0))]) (stN := [(0, 1)]) (hsN := [jzS_244, (100, [], jS0), jgh, jgh, jgh, jgh, (130, [], [16, 17, 18, 19, 20, 21]), jgh, jgh, jgh, jgh, jgh, jgh, jgh, jgh, jgh, (100, [], (jenc (jlg 0))), (100, [], (jenc (jlg 1))), (100, [], (jenc (jlg 2))), (100, [], (jenc (jlg 3))), (100, [], (jenc (jlg 4))), (100, [], (jenc (jlg 5))), (100, [], [k22_0, k22_1, k22_2, k22_3, k22_4, k22_5])]) rfl rfl rfl ?_
    refine jT_xiconst (k := 1) (pcN := 97) jIS_324_96 rfl ?_
    refine jT_xicF (t := 112) (pcN := 100) jIS_324_97 rfl (by decide +kernel) rfl rfl ?_
    refine jT_xaload_n (v := (4, 0)) (pcN := 101) jIS_324_100 rfl rfl rfl ?_
    refine jT_xiload (v := (0, y4)) (pcN := 103) jIS_324_101 rfl rfl rfl ?_
    refine jT_xiload (v := (0, t)) (pcN := 105) jIS_324_103 rfl rfl rfl ?_
    refine jT_xaload_n (v := (4, 22)) (pcN := 106) jIS_324_105 rfl rfl rfl ?_
    refine jT_callA [0, 22, 1, 2, 3, 4, 5, 6, 7, 8, 9, 10, 11, 12, 13, 14, 15] (y := 325) (pcN := 109) (dC := 0) (bc1 := 0) (bc2 := 0) (c1 := (b1 + 0 * q + 0)) (c2 := (b2 + 0 * q + 0)) (as := [(4, 0), (0, y4), (0, t), (4, 22)]) (asC := [(4, 0), (0, y4), (0, t), (4, 1)]) (LN := [(5, (0, t)), (1, (0, 1)), (4, (0, y4)), (3, (0, y3)), (2, (4, 22)), (0, (4, 0))]) (stN := []) (hsC := [jzS_251, (100, [], [k22_0, k22_1, k22_2, k22_3, k22_4, k22_5]), (100, [], jS0), jgh, jgh, jgh, jgh, jgh, jgh, jgh, jgh, jgh, jgh, jgh, jgh, jgh, jgh]) (ex := []) (v := (0, 1)) (st2 := [(0, 1)]) (hs2 := [jzS_244, (100, [], jS0), jgh, jgh, jgh, jgh, (130, [], [16, 17, 18, 19, 20, 21]), jgh, jgh, jgh, jgh, jgh, jgh, jgh, jgh, jgh, (100, [], (jenc (jlg 0))), (100, [], (jenc (jlg 1))), (100, [], (jenc (jlg 2))), (100, [], (jenc (jlg 3))), (100, [], (jenc (jlg 4))), (100, [], (jenc (jlg 5))), (100, [], [k22_0, k22_1, k22_2, k22_3, k22_4, k22_5])]) (jS_325_237 (d := 0) (by omega) (by omega) (by omega) (by omega) (by omega) (by omega) (by omega) (by omega) (by omega)) (by rfl) (by rfl) (by rfl) (by rfl) ⟨rfl, rfl, rfl, rfl, rfl, rfl, rfl, rfl, rfl, rfl, rfl, rfl, rfl, rfl, rfl, rfl, rfl, trivial⟩ (by rfl) (by rfl) (by omega) (by show 22 ≤ 23; omega) (by omega) (by omega) rfl rfl ?_
    refine jT_xifF (t := 116) (pcN := 112) jIS_324_109 rfl (by decide +kernel) rfl rfl ?_
    refine jT_xiconst (k := 1) (pcN := 113) jIS_324_112 rfl ?_
    refine jT_xgoto (pcN := 117) jIS_324_113 rfl ?_
    refine jT_xistore_n (v := (0, 1)) (LN := [(1, (0, 1)), (5, (0, t)), (4, (0, y4)), (3, (0, y3)), (2, (4, 22)), (0, (4, 0))]) (pcN := 118) jIS_324_117 rfl rfl rfl rfl ?_
    refine jT_xiinc (x := t) (z := t + 1) (LN := [(5, (0, t + 1)), (1, (0, 1)), (4, (0, y4)), (3, (0, y3)), (2, (4, 22)), (0, (4, 0))]) (pcN := 121) jIS_324_118 rfl rfl (rfl) rfl rfl ?_
    refine jT_xgoto (pcN := 55) jIS_324_121 rfl ?_
    refine jT_loc (LN := [(5, (0, t + 1)), (1, (0, 1)), (4, (0, y4)), (3, (0, y3)), (2, (4, 22)), (0, (4, 0))]) (by show List.Nodup [5, 1, 4, 3, 2, 0]; decide) (by intro q hq; simp only [List.mem_cons, List.not_mem_nil, or_false] at hq; rcases hq with rfl | rfl | rfl | rfl | rfl | rfl <;> rfl) ?_
    exact ih (t + 1) (by omega) (by omega)
theorem jIS_324_124 : jmI (jm 324) 124 = (.iinc 4 1, 3) := by rfl
theorem jIS_324_127 : jmI (jm 324) 127 = (.goto (-82), 3) := by rfl
theorem jSl_gc_239 {xs : List Int} {d b1 b2 : Nat} {Q : Nat → JV → List JC → Prop} (hd : 2 < d) {y3 k22_0 k22_1 k22_2 k22_3 k22_4 k22_5 : Int} (h_y3 : 1 ≤ y3 ∧ y3 ≤ 60) (h_k22_0 : 1 ≤ k22_0 ∧ k22_0 ≤ 4001) (h_k22_1 : 1 ≤ k22_1 ∧ k22_1 ≤ 4001) (h_k22_2 : 1 ≤ k22_2 ∧ k22_2 ≤ 4001) (h_k22_3 : 1 ≤ k22_3 ∧ k22_3 ≤ 4001) (h_k22_4 : 1 ≤ k22_4 ∧ k22_4 ≤ 4001) (h_k22_5 : 1 ≤ k22_5 ∧ k22_5 ≤ 4001) (h : jT xs d 324 22 130 [(1, (0, 1)), (3, (0, y3)), (2, (4, 22)), (0, (4, 0))] [] [jzS_244, (100, [], jS0), jgh, jgh, jgh, jgh, (130, [], [16, 17, 18, 19, 20, 21]), jgh, jgh, jgh, jgh, jgh, jgh, jgh, jgh, jgh, (100, [], (jenc (jlg 0))), (100, [], (jenc (jlg 1))), (100, [], (jenc (jlg 2))), (100, [], (jenc (jlg 3))), (100, [], (jenc (jlg 4))), (100, [], (jenc (jlg 5))), (100, [], [k22_0, k22_1, k22_2, k22_3, k22_4, k22_5])] b1 b2 Q) : ∀ (q : Nat) (t : Int), 0 ≤ t → t + (q : Int) = 8 → jT xs d 324 22 45 [(4, (0, t)), (1, (0, 1)), (3, (0, y3)), (2, (4, 22)), (0, (4, 0))] [] [jzS_244, (100, [], jS0), jgh, jgh, jgh, jgh, (130, [], [16, 17, 18, 19, 20, 21]), jgh, jgh, jgh, jgh, jgh, jgh, jgh, jgh, jgh, (100, [], (jenc (jlg 0))), (100, [], (jenc (jlg 1))), (100, [], (jenc (jlg 2))), (100, [], (jenc (jlg 3))), (100, [], (jenc (jlg 4))), (100, [], (jenc (jlg 5))), (100, [], [k22_0, k22_1, k22_2, k22_3, k22_4, k22_5])] (b1 + 0 * q) (b2 + 0 * q) Q := by
  intro q
  induction q with
  | zero =>
    intro t h0 ht
    have e : t = 8 := by omega
    subst t
    refine jT.mono (b1 := b1) (b2 := b2) ?_ (Nat.le_refl _) (by omega) (by omega) (fun _ _ _ z => z)
    refine jT_xiload (v := (0, 8)) (pcN := 47) jIS_324_45 rfl rfl rfl ?_
    refine jT_xbipush (k := 8) (pcN := 49) jIS_324_47 (by decide) rfl ?_
    refine jT_xicT (pcN := 130) jIS_324_49 rfl (by decide +kernel) rfl ?_
    refine jT_loc (LN := [(1, (0, 1)), (3, (0, y3)), (2, (4, 22)), (0, (4, 0))]) (by show List.Nodup [1, 3, 2, 0]; decide) (by intro q hq; simp only [List.mem_cons, List.not_mem_nil, or_false] at hq; rcases hq with rfl | rfl | rfl | rfl <;> rfl) ?_
    exact h
  | succ q ih =>
    intro t h0 ht
    have h_t : 0 ≤ t ∧ t ≤ 7 := by omega
    have g_0 : t - 8 < 0 := by omega
    refine jT.mono (b1 := b1 + 0 * q + 0) (b2 := b2 + 0 * q + 0) ?_ (Nat.le_refl _) (by omega) (by omega) (fun _ _ _ z => z)
    refine jT_xiload (v := (0, t)) (pcN := 47) jIS_324_45 rfl rfl rfl ?_
    refine jT_xbipush (k := 8) (pcN := 49) jIS_324_47 (by decide) rfl ?_
    refine jT_icF (a := t) (b := 8) (t := 130) (by rfl) (by rfl) (by rfl) (jw_idd (by omega) (by omega)) (jw_idd (by omega) (by omega)) (by simp only [jcP] <;> omega) ?_
    refine jT_xiconst (k := 0) (pcN := 53) jIS_324_52 rfl ?_
    refine jT_xistore (v := (0, 0)) (LN := [(5, (0, 0)), (4, (0, t)), (1, (0, 1)), (3, (0, y3)), (2, (4, 22)), (0, (4, 0))]) (pcN := 55) jIS_324_53 rfl rfl rfl rfl ?_
    refine jT_loc (LN := [(5, (0, 0)), (1, (0, 1)), (4, (0, t)), (3, (0, y3)), (2, (4, 22)), (0, (4, 0))]) (by show List.Nodup [5, 1, 4, 3, 2, 0]; decide) (by intro q hq; simp only [List.mem_cons, List.not_mem_nil, or_false] at hq; rcases hq with rfl | rfl | rfl | rfl | rfl | rfl <;> rfl) ?_
    refine jT.mono (jSl_gc_240 (b1 := (b1 + 0 * q + 0)) (b2 := (b2 + 0 * q + 0)) (by omega) (y3 := y3) (y4 := t) (k22_0 := k22_0) (k22_1 := k22_1) (k22_2 := k22_2) (k22_3 := k22_3) (k22_4 := k22_4) (k22_5 := k22_5) (by omega) (by omega) (by omega) (by omega) (by omega) (by omega) (by omega) (by omega) ?_ ((8 : Int) - 0).toNat 0 (by omega) (by omega)) (Nat.le_refl _) (by omega) (by omega) (fun _ _ _ z => z)
    refine jT_xiinc (x := t) (z := t + 1) (LN := [(4, (0, t + 1)), (1, (0, 1)), (3, (0, y3)), (2, (4, 22)), (0, (4, 0))]) (pcN := 127) jIS_324_124 rfl rfl (rfl) rfl rfl ?_
    refine jT_xgoto (pcN := 45) jIS_324_127 rfl ?_
    refine jT_loc (LN := [(4, (0, t + 1)), (1, (0, 1)), (3, (0, y3)), (2, (4, 22)), (0, (4, 0))]) (by show List.Nodup [4, 1, 3, 2, 0]; decide) (by intro q hq; simp only [List.mem_cons, List.not_mem_nil, or_false] at hq; rcases hq with rfl | rfl | rfl | rfl | rfl <;> rfl) ?_
    exact ih (t + 1) (by omega) (by omega)
theorem jIS_324_130 : jmI (jm 324) 130 = (.iinc 3 1, 3) := by rfl
theorem jIS_324_133 : jmI (jm 324) 133 = (.goto (-124), 3) := by rfl
theorem jSl_gc_238 {xs : List Int} {d b1 b2 : Nat} {Q : Nat → JV → List JC → Prop} (hd : 8 < d)  (h : ∀ (u22_0 u22_1 u22_2 u22_3 u22_4 u22_5 : Int), jT xs d 324 22 136 [(1, (0, 1))] [] [jzS_244, (100, [], jS0), jgh, jgh, jgh, jgh, (130, [], [16, 17, 18, 19, 20, 21]), jgh, jgh, jgh, jgh, jgh, jgh, jgh, jgh, jgh, (100, [], (jenc (jlg 0))), (100, [], (jenc (jlg 1))), (100, [], (jenc (jlg 2))), (100, [], (jenc (jlg 3))), (100, [], (jenc (jlg 4))), (100, [], (jenc (jlg 5))), (100, [], [u22_0, u22_1, u22_2, u22_3, u22_4, u22_5])] b1 b2 Q) : ∀ (q : Nat) (t u22_0 u22_1 u22_2 u22_3 u22_4 u22_5 : Int), 1 ≤ t → t + (q : Int) = 61 → jT xs d 324 22 9 [(3, (0, t)), (1, (0, 1)), (2, (4, 22)), (0, (4, 0))] [] [jzS_244, (100, [], jS0), jgh, jgh, jgh, jgh, (130, [], [16, 17, 18, 19, 20, 21]), jgh, jgh, jgh, jgh, jgh, jgh, jgh, jgh, jgh, (100, [], (jenc (jlg 0))), (100, [], (jenc (jlg 1))), (100, [], (jenc (jlg 2))), (100, [], (jenc (jlg 3))), (100, [], (jenc (jlg 4))), (100, [], (jenc (jlg 5))), (100, [], [u22_0, u22_1, u22_2, u22_3, u22_4, u22_5])] (b1 + 372 * q) (b2 + 19332 * q) Q := by
  intro q
  induction q with
  | zero =>
    intro t u22_0 u22_1 u22_2 u22_3 u22_4 u22_5 h0 ht
    have e : t = 61 := by omega
    subst t
    refine jT.mono (b1 := b1) (b2 := b2) ?_ (Nat.le_refl _) (by omega) (by omega) (fun _ _ _ z => z)
    refine jT_xiload_n (v := (0, 61)) (pcN := 10) jIS_324_9 rfl rfl rfl ?_
    refine jT_xbipush (k := 60) (pcN := 12) jIS_324_10 (by decide) rfl ?_
    refine jT_xicT (pcN := 136) jIS_324_12 rfl (by decide +kernel) rfl ?_
    refine jT_loc (LN := [(1, (0, 1))]) (by show List.Nodup [1]; decide) (by intro q hq; simp only [List.mem_cons, List.not_mem_nil, or_false] at hq; rcases hq with rfl <;> rfl) ?_
    exact h u22_0 u22_1 u22_2 u22_3 u22_4 u22_5
  | succ q ih =>
    intro t u22_0 u22_1 u22_2 u22_3 u22_4 u22_5 h0 ht
    have h_t : 1 ≤ t ∧ t ≤ 60 := by omega
    have g_0 : t - 61 < 0 := by omega
    refine jT.mono (b1 := b1 + 372 * q + 372) (b2 := b2 + 19332 * q + 19332) ?_ (Nat.le_refl _) (by omega) (by omega) (fun _ _ _ z => z)
    refine jT_xiload_n (v := (0, t)) (pcN := 10) jIS_324_9 rfl rfl rfl ?_
    refine jT_xbipush (k := 60) (pcN := 12) jIS_324_10 (by decide) rfl ?_
    refine jT_icF (a := t) (b := 60) (t := 136) (by rfl) (by rfl) (by rfl) (jw_idd (by omega) (by omega)) (jw_idd (by omega) (by omega)) (by simp only [jcP] <;> omega) ?_
    refine jT_xiconst (k := 0) (pcN := 16) jIS_324_15 rfl ?_
    refine jT_xistore (v := (0, 0)) (LN := [(4, (0, 0)), (3, (0, t)), (1, (0, 1)), (2, (4, 22)), (0, (4, 0))]) (pcN := 18) jIS_324_16 rfl rfl rfl rfl ?_
    refine jT_xiload (v := (0, 0)) (pcN := 20) jIS_324_18 rfl rfl rfl ?_
    refine jT_xbipush (k := 6) (pcN := 22) jIS_324_20 (by decide) rfl ?_
    refine jT_xicF (t := 42) (pcN := 25) jIS_324_22 rfl (by decide +kernel) rfl rfl ?_
    refine jT_xaload_n (v := (4, 22)) (pcN := 26) jIS_324_25 rfl rfl rfl ?_
    refine jT_xiload (v := (0, 0)) (pcN := 28) jIS_324_26 rfl rfl rfl ?_
    refine jT_xaload_n (v := (4, 0)) (pcN := 29) jIS_324_28 rfl rfl rfl ?_
    refine jT_xiload_n (v := (0, t)) (pcN := 30) jIS_324_29 rfl rfl rfl ?_
    refine jT_xiload (v := (0, 0)) (pcN := 32) jIS_324_30 rfl rfl rfl ?_
    refine jT_callA [0, 1, 2, 3, 4, 5, 6, 7, 8, 9, 10, 11, 12, 13, 14, 15, 16, 17, 18, 19, 20, 21] (y := 297) (pcN := 35) (dC := 7) (bc1 := 62) (bc2 := 3222) (c1 := (b1 + 372 * q + 310)) (c2 := (b2 + 19332 * q + 16110)) (as := [(4, 0), (0, t), (0, 0)]) (asC := [(4, 0), (0, t), (0, 0)]) (LN := [(4, (0, 0)), (3, (0, t)), (1, (0, 1)), (2, (4, 22)), (0, (4, 0))]) (stN := [(0, 0), (4, 22)]) (hsC := jpS_447) (ex := []) (v := (0, jbp0 t)) (st2 := [(0, jbp0 t), (0, 0), (4, 22)]) (hs2 := [jzS_244, (100, [], jS0), jgh, jgh, jgh, jgh, (130, [], [16, 17, 18, 19, 20, 21]), jgh, jgh, jgh, jgh, jgh, jgh, jgh, jgh, jgh, (100, [], (jenc (jlg 0))), (100, [], (jenc (jlg 1))), (100, [], (jenc (jlg 2))), (100, [], (jenc (jlg 3))), (100, [], (jenc (jlg 4))), (100, [], (jenc (jlg 5))), (100, [], [u22_0, u22_1, u22_2, u22_3, u22_4, u22_5])]) (jS_297_180 (d := 0) (by omega) (by omega)) (by rfl) (by rfl) (by rfl) (by rfl) ⟨rfl, rfl, rfl, rfl, rfl, rfl, rfl, rfl, rfl, rfl, rfl, rfl, rfl, rfl, rfl, rfl, rfl, rfl, rfl, rfl, rfl, rfl, trivial⟩ (by rfl) (by rfl) (by omega) (by show 22 ≤ 23; omega) (by omega) (by omega) rfl rfl ?_
    have hb_q1 := jbp_b0 (p := t) (by omega)
    generalize hq_q1 : jbp0 t = q1 at hb_q1 ⊢
    refine jT_adv 1 (pcN := 36) (LN := [(4, (0, 0)), (3, (0, t)), (1, (0, 1)), (2, (4, 22)), (0, (4, 0))]) (stN := []) (hsN := [jzS_244, (100, [], jS0), jgh, jgh, jgh, jgh, (130, [], [16, 17, 18, 19, 20, 21]), jgh, jgh, jgh, jgh, jgh, jgh, jgh, jgh, jgh, (100, [], (jenc (jlg 0))), (100, [], (jenc (jlg 1))), (100, [], (jenc (jlg 2))), (100, [], (jenc (jlg 3))), (100, [], (jenc (jlg 4))), (100, [], (jenc (jlg 5))), (100, [], [q1, u22_1, u22_2, u22_3, u22_4, u22_5])]) (c1 := 0) (s1 := 0) (c2 := (b1 + 372 * q + 310)) (s2 := (b2 + 19332 * q + 16110)) (by exact rfl) ?_ (by omega) (by omega)
    refine jT_xiinc (x := 0) (z := 1) (LN := [(4, (0, 1)), (3, (0, t)), (1, (0, 1)), (2, (4, 22)), (0, (4, 0))]) (pcN := 39) jIS_324_36 rfl rfl (by decide) rfl rfl ?_
    refine jT_xgoto (pcN := 18) jIS_324_39 rfl ?_
    refine jT_xiload (v := (0, 1)) (pcN := 20) jIS_324_18 rfl rfl rfl ?_
    refine jT_xbipush (k := 6) (pcN := 22) jIS_324_20 (by decide) rfl ?_
    refine jT_xicF (t := 42) (pcN := 25) jIS_324_22 rfl (by decide +kernel) rfl rfl ?_
    refine jT_xaload_n (v := (4, 22)) (pcN := 26) jIS_324_25 rfl rfl rfl ?_
    refine jT_xiload (v := (0, 1)) (pcN := 28) jIS_324_26 rfl rfl rfl ?_
    refine jT_xaload_n (v := (4, 0)) (pcN := 29) jIS_324_28 rfl rfl rfl ?_
    refine jT_xiload_n (v := (0, t)) (pcN := 30) jIS_324_29 rfl rfl rfl ?_
    refine jT_xiload (v := (0, 1)) (pcN := 32) jIS_324_30 rfl rfl rfl ?_
    refine jT_callA [0, 1, 2, 3, 4, 5, 6, 7, 8, 9, 10, 11, 12, 13, 14, 15, 16, 17, 18, 19, 20, 21] (y := 297) (pcN := 35) (dC := 7) (bc1 := 62) (bc2 := 3222) (c1 := (b1 + 372 * q + 248)) (c2 := (b2 + 19332 * q + 12888)) (as := [(4, 0), (0, t), (0, 1)]) (asC := [(4, 0), (0, t), (0, 1)]) (LN := [(4, (0, 1)), (3, (0, t)), (1, (0, 1)), (2, (4, 22)), (0, (4, 0))]) (stN := [(0, 1), (4, 22)]) (hsC := jpS_447) (ex := []) (v := (0, jbp1 t)) (st2 := [(0, jbp1 t), (0, 1), (4, 22)]) (hs2 := [jzS_244, (100, [], jS0), jgh, jgh, jgh, jgh, (130, [], [16, 17, 18, 19, 20, 21]), jgh, jgh, jgh, jgh, jgh, jgh, jgh, jgh, jgh, (100, [], (jenc (jlg 0))), (100, [], (jenc (jlg 1))), (100, [], (jenc (jlg 2))), (100, [], (jenc (jlg 3))), (100, [], (jenc (jlg 4))), (100, [], (jenc (jlg 5))), (100, [], [q1, u22_1, u22_2, u22_3, u22_4, u22_5])]) (jS_297_191 (d := 0) (by omega) (by omega)) (by rfl) (by rfl) (by rfl) (by rfl) ⟨rfl, rfl, rfl, rfl, rfl, rfl, rfl, rfl, rfl, rfl, rfl, rfl, rfl, rfl, rfl, rfl, rfl, rfl, rfl, rfl, rfl, rfl, trivial⟩ (by rfl) (by rfl) (by omega) (by show 22 ≤ 23; omega) (by omega) (by omega) rfl rfl ?_
    have hb_q2 := jbp_b1 (p := t) (by omega)
    generalize hq_q2 : jbp1 t = q2 at hb_q2 ⊢
    refine jT_adv 1 (pcN := 36) (LN := [(4, (0, 1)), (3, (0, t)), (1, (0, 1)), (2, (4, 22)), (0, (4, 0))]) (stN := []) (hsN := [jzS_244, (100, [], jS0), jgh, jgh, jgh, jgh, (130, [], [16, 17, 18, 19, 20, 21]), jgh, jgh, jgh, jgh, jgh, jgh, jgh, jgh, jgh, (100, [], (jenc (jlg 0))), (100, [], (jenc (jlg 1))), (100, [], (jenc (jlg 2))), (100, [], (jenc (jlg 3))), (100, [], (jenc (jlg 4))), (100, [], (jenc (jlg 5))), (100, [], [q1, q2, u22_2, u22_3, u22_4, u22_5])]) (c1 := 0) (s1 := 0) (c2 := (b1 + 372 * q + 248)) (s2 := (b2 + 19332 * q + 12888)) (by exact rfl) ?_ (by omega) (by omega)
    refine jT_xiinc (x := 1) (z := 2) (LN := [(4, (0, 2)), (3, (0, t)), (1, (0, 1)), (2, (4, 22)), (0, (4, 0))]) (pcN := 39) jIS_324_36 rfl rfl (by decide) rfl rfl ?_
    refine jT_xgoto (pcN := 18) jIS_324_39 rfl ?_
    refine jT_xiload (v := (0, 2)) (pcN := 20) jIS_324_18 rfl rfl rfl ?_
    refine jT_xbipush (k := 6) (pcN := 22) jIS_324_20 (by decide) rfl ?_
    refine jT_xicF (t := 42) (pcN := 25) jIS_324_22 rfl (by decide +kernel) rfl rfl ?_
    refine jT_xaload_n (v := (4, 22)) (pcN := 26) jIS_324_25 rfl rfl rfl ?_
    refine jT_xiload (v := (0, 2)) (pcN := 28) jIS_324_26 rfl rfl rfl ?_
    refine jT_xaload_n (v := (4, 0)) (pcN := 29) jIS_324_28 rfl rfl rfl ?_
    refine jT_xiload_n (v := (0, t)) (pcN := 30) jIS_324_29 rfl rfl rfl ?_
    refine jT_xiload (v := (0, 2)) (pcN := 32) jIS_324_30 rfl rfl rfl ?_
    refine jT_callA [0, 1, 2, 3, 4, 5, 6, 7, 8, 9, 10, 11, 12, 13, 14, 15, 16, 17, 18, 19, 20, 21] (y := 297) (pcN := 35) (dC := 7) (bc1 := 62) (bc2 := 3222) (c1 := (b1 + 372 * q + 186)) (c2 := (b2 + 19332 * q + 9666)) (as := [(4, 0), (0, t), (0, 2)]) (asC := [(4, 0), (0, t), (0, 2)]) (LN := [(4, (0, 2)), (3, (0, t)), (1, (0, 1)), (2, (4, 22)), (0, (4, 0))]) (stN := [(0, 2), (4, 22)]) (hsC := jpS_447) (ex := []) (v := (0, jbp2 t)) (st2 := [(0, jbp2 t), (0, 2), (4, 22)]) (hs2 := [jzS_244, (100, [], jS0), jgh, jgh, jgh, jgh, (130, [], [16, 17, 18, 19, 20, 21]), jgh, jgh, jgh, jgh, jgh, jgh, jgh, jgh, jgh, (100, [], (jenc (jlg 0))), (100, [], (jenc (jlg 1))), (100, [], (jenc (jlg 2))), (100, [], (jenc (jlg 3))), (100, [], (jenc (jlg 4))), (100, [], (jenc (jlg 5))), (100, [], [q1, q2, u22_2, u22_3, u22_4, u22_5])]) (jS_297_202 (d := 0) (by omega) (by omega)) (by rfl) (by rfl) (by rfl) (by rfl) ⟨rfl, rfl, rfl, rfl, rfl, rfl, rfl, rfl, rfl, rfl, rfl, rfl, rfl, rfl, rfl, rfl, rfl, rfl, rfl, rfl, rfl, rfl, trivial⟩ (by rfl) (by rfl) (by omega) (by show 22 ≤ 23; omega) (by omega) (by omega) rfl rfl ?_
    have hb_q3 := jbp_b2 (p := t) (by omega)
    generalize hq_q3 : jbp2 t = q3 at hb_q3 ⊢
    refine jT_adv 1 (pcN := 36) (LN := [(4, (0, 2)), (3, (0, t)), (1, (0, 1)), (2, (4, 22)), (0, (4, 0))]) (stN := []) (hsN := [jzS_244, (100, [], jS0), jgh, jgh, jgh, jgh, (130, [], [16, 17, 18, 19, 20, 21]), jgh, jgh, jgh, jgh, jgh, jgh, jgh, jgh, jgh, (100, [], (jenc (jlg 0))), (100, [], (jenc (jlg 1))), (100, [], (jenc (jlg 2))), (100, [], (jenc (jlg 3))), (100, [], (jenc (jlg 4))), (100, [], (jenc (jlg 5))), (100, [], [q1, q2, q3, u22_3, u22_4, u22_5])]) (c1 := 0) (s1 := 0) (c2 := (b1 + 372 * q + 186)) (s2 := (b2 + 19332 * q + 9666)) (by exact rfl) ?_ (by omega) (by omega)
    refine jT_xiinc (x := 2) (z := 3) (LN := [(4, (0, 3)), (3, (0, t)), (1, (0, 1)), (2, (4, 22)), (0, (4, 0))]) (pcN := 39) jIS_324_36 rfl rfl (by decide) rfl rfl ?_
    refine jT_xgoto (pcN := 18) jIS_324_39 rfl ?_
    refine jT_xiload (v := (0, 3)) (pcN := 20) jIS_324_18 rfl rfl rfl ?_
    refine jT_xbipush (k := 6) (pcN := 22) jIS_324_20 (by decide) rfl ?_
    refine jT_xicF (t := 42) (pcN := 25) jIS_324_22 rfl (by decide +kernel) rfl rfl ?_
    refine jT_xaload_n (v := (4, 22)) (pcN := 26) jIS_324_25 rfl rfl rfl ?_
    refine jT_xiload (v := (0, 3)) (pcN := 28) jIS_324_26 rfl rfl rfl ?_
    refine jT_xaload_n (v := (4, 0)) (pcN := 29) jIS_324_28 rfl rfl rfl ?_
    refine jT_xiload_n (v := (0, t)) (pcN := 30) jIS_324_29 rfl rfl rfl ?_
    refine jT_xiload (v := (0, 3)) (pcN := 32) jIS_324_30 rfl rfl rfl ?_
    refine jT_callA [0, 1, 2, 3, 4, 5, 6, 7, 8, 9, 10, 11, 12, 13, 14, 15, 16, 17, 18, 19, 20, 21] (y := 297) (pcN := 35) (dC := 7) (bc1 := 62) (bc2 := 3222) (c1 := (b1 + 372 * q + 124)) (c2 := (b2 + 19332 * q + 6444)) (as := [(4, 0), (0, t), (0, 3)]) (asC := [(4, 0), (0, t), (0, 3)]) (LN := [(4, (0, 3)), (3, (0, t)), (1, (0, 1)), (2, (4, 22)), (0, (4, 0))]) (stN := [(0, 3), (4, 22)]) (hsC := jpS_447) (ex := []) (v := (0, jbp3 t)) (st2 := [(0, jbp3 t), (0, 3), (4, 22)]) (hs2 := [jzS_244, (100, [], jS0), jgh, jgh, jgh, jgh, (130, [], [16, 17, 18, 19, 20, 21]), jgh, jgh, jgh, jgh, jgh, jgh, jgh, jgh, jgh, (100, [], (jenc (jlg 0))), (100, [], (jenc (jlg 1))), (100, [], (jenc (jlg 2))), (100, [], (jenc (jlg 3))), (100, [], (jenc (jlg 4))), (100, [], (jenc (jlg 5))), (100, [], [q1, q2, q3, u22_3, u22_4, u22_5])]) (jS_297_213 (d := 0) (by omega) (by omega)) (by rfl) (by rfl) (by rfl) (by rfl) ⟨rfl, rfl, rfl, rfl, rfl, rfl, rfl, rfl, rfl, rfl, rfl, rfl, rfl, rfl, rfl, rfl, rfl, rfl, rfl, rfl, rfl, rfl, trivial⟩ (by rfl) (by rfl) (by omega) (by show 22 ≤ 23; omega) (by omega) (by omega) rfl rfl ?_
    have hb_q4 := jbp_b3 (p := t) (by omega)
    generalize hq_q4 : jbp3 t = q4 at hb_q4 ⊢
    refine jT_adv 1 (pcN := 36) (LN := [(4, (0, 3)), (3, (0, t)), (1, (0, 1)), (2, (4, 22)), (0, (4, 0))]) (stN := []) (hsN := [jzS_244, (100, [], jS0), jgh, jgh, jgh, jgh, (130, [], [16, 17, 18, 19, 20, 21]), jgh, jgh, jgh, jgh, jgh, jgh, jgh, jgh, jgh, (100, [], (jenc (jlg 0))), (100, [], (jenc (jlg 1))), (100, [], (jenc (jlg 2))), (100, [], (jenc (jlg 3))), (100, [], (jenc (jlg 4))), (100, [], (jenc (jlg 5))), (100, [], [q1, q2, q3, q4, u22_4, u22_5])]) (c1 := 0) (s1 := 0) (c2 := (b1 + 372 * q + 124)) (s2 := (b2 + 19332 * q + 6444)) (by exact rfl) ?_ (by omega) (by omega)
    refine jT_xiinc (x := 3) (z := 4) (LN := [(4, (0, 4)), (3, (0, t)), (1, (0, 1)), (2, (4, 22)), (0, (4, 0))]) (pcN := 39) jIS_324_36 rfl rfl (by decide) rfl rfl ?_
    refine jT_xgoto (pcN := 18) jIS_324_39 rfl ?_
    refine jT_xiload (v := (0, 4)) (pcN := 20) jIS_324_18 rfl rfl rfl ?_
    refine jT_xbipush (k := 6) (pcN := 22) jIS_324_20 (by decide) rfl ?_
    refine jT_xicF (t := 42) (pcN := 25) jIS_324_22 rfl (by decide +kernel) rfl rfl ?_
    refine jT_xaload_n (v := (4, 22)) (pcN := 26) jIS_324_25 rfl rfl rfl ?_
    refine jT_xiload (v := (0, 4)) (pcN := 28) jIS_324_26 rfl rfl rfl ?_
    refine jT_xaload_n (v := (4, 0)) (pcN := 29) jIS_324_28 rfl rfl rfl ?_
    refine jT_xiload_n (v := (0, t)) (pcN := 30) jIS_324_29 rfl rfl rfl ?_
    refine jT_xiload (v := (0, 4)) (pcN := 32) jIS_324_30 rfl rfl rfl ?_
    refine jT_callA [0, 1, 2, 3, 4, 5, 6, 7, 8, 9, 10, 11, 12, 13, 14, 15, 16, 17, 18, 19, 20, 21] (y := 297) (pcN := 35) (dC := 7) (bc1 := 62) (bc2 := 3222) (c1 := (b1 + 372 * q + 62)) (c2 := (b2 + 19332 * q + 3222)) (as := [(4, 0), (0, t), (0, 4)]) (asC := [(4, 0), (0, t), (0, 4)]) (LN := [(4, (0, 4)), (3, (0, t)), (1, (0, 1)), (2, (4, 22)), (0, (4, 0))]) (stN := [(0, 4), (4, 22)]) (hsC := jpS_447) (ex := []) (v := (0, jbp4 t)) (st2 := [(0, jbp4 t), (0, 4), (4, 22)]) (hs2 := [jzS_244, (100, [], jS0), jgh, jgh, jgh, jgh, (130, [], [16, 17, 18, 19, 20, 21]), jgh, jgh, jgh, jgh, jgh, jgh, jgh, jgh, jgh, (100, [], (jenc (jlg 0))), (100, [], (jenc (jlg 1))), (100, [], (jenc (jlg 2))), (100, [], (jenc (jlg 3))), (100, [], (jenc (jlg 4))), (100, [], (jenc (jlg 5))), (100, [], [q1, q2, q3, q4, u22_4, u22_5])]) (jS_297_224 (d := 0) (by omega) (by omega)) (by rfl) (by rfl) (by rfl) (by rfl) ⟨rfl, rfl, rfl, rfl, rfl, rfl, rfl, rfl, rfl, rfl, rfl, rfl, rfl, rfl, rfl, rfl, rfl, rfl, rfl, rfl, rfl, rfl, trivial⟩ (by rfl) (by rfl) (by omega) (by show 22 ≤ 23; omega) (by omega) (by omega) rfl rfl ?_
    have hb_q5 := jbp_b4 (p := t) (by omega)
    generalize hq_q5 : jbp4 t = q5 at hb_q5 ⊢
    refine jT_adv 1 (pcN := 36) (LN := [(4, (0, 4)), (3, (0, t)), (1, (0, 1)), (2, (4, 22)), (0, (4, 0))]) (stN := []) (hsN := [jzS_244, (100, [], jS0), jgh, jgh, jgh, jgh, (130, [], [16, 17, 18, 19, 20, 21]), jgh, jgh, jgh, jgh, jgh, jgh, jgh, jgh, jgh, (100, [], (jenc (jlg 0))), (100, [], (jenc (jlg 1))), (100, [], (jenc (jlg 2))), (100, [], (jenc (jlg 3))), (100, [], (jenc (jlg 4))), (100, [], (jenc (jlg 5))), (100, [], [q1, q2, q3, q4, q5, u22_5])]) (c1 := 0) (s1 := 0) (c2 := (b1 + 372 * q + 62)) (s2 := (b2 + 19332 * q + 3222)) (by exact rfl) ?_ (by omega) (by omega)
    refine jT_xiinc (x := 4) (z := 5) (LN := [(4, (0, 5)), (3, (0, t)), (1, (0, 1)), (2, (4, 22)), (0, (4, 0))]) (pcN := 39) jIS_324_36 rfl rfl (by decide) rfl rfl ?_
    refine jT_xgoto (pcN := 18) jIS_324_39 rfl ?_
    refine jT_xiload (v := (0, 5)) (pcN := 20) jIS_324_18 rfl rfl rfl ?_
    refine jT_xbipush (k := 6) (pcN := 22) jIS_324_20 (by decide) rfl ?_
    refine jT_xicF (t := 42) (pcN := 25) jIS_324_22 rfl (by decide +kernel) rfl rfl ?_
    refine jT_xaload_n (v := (4, 22)) (pcN := 26) jIS_324_25 rfl rfl rfl ?_
    refine jT_xiload (v := (0, 5)) (pcN := 28) jIS_324_26 rfl rfl rfl ?_
    refine jT_xaload_n (v := (4, 0)) (pcN := 29) jIS_324_28 rfl rfl rfl ?_
    refine jT_xiload_n (v := (0, t)) (pcN := 30) jIS_324_29 rfl rfl rfl ?_
    refine jT_xiload (v := (0, 5)) (pcN := 32) jIS_324_30 rfl rfl rfl ?_
    refine jT_callA [0, 1, 2, 3, 4, 5, 6, 7, 8, 9, 10, 11, 12, 13, 14, 15, 16, 17, 18, 19, 20, 21] (y := 297) (pcN := 35) (dC := 7) (bc1 := 62) (bc2 := 3222) (c1 := (b1 + 372 * q + 0)) (c2 := (b2 + 19332 * q + 0)) (as := [(4, 0), (0, t), (0, 5)]) (asC := [(4, 0), (0, t), (0, 5)]) (LN := [(4, (0, 5)), (3, (0, t)), (1, (0, 1)), (2, (4, 22)), (0, (4, 0))]) (stN := [(0, 5), (4, 22)]) (hsC := jpS_447) (ex := []) (v := (0, jbp5 t)) (st2 := [(0, jbp5 t), (0, 5), (4, 22)]) (hs2 := [jzS_244, (100, [], jS0), jgh, jgh, jgh, jgh, (130, [], [16, 17, 18, 19, 20, 21]), jgh, jgh, jgh, jgh, jgh, jgh, jgh, jgh, jgh, (100, [], (jenc (jlg 0))), (100, [], (jenc (jlg 1))), (100, [], (jenc (jlg 2))), (100, [], (jenc (jlg 3))), (100, [], (jenc (jlg 4))), (100, [], (jenc (jlg 5))), (100, [], [q1, q2, q3, q4, q5, u22_5])]) (jS_297_235 (d := 0) (by omega) (by omega)) (by rfl) (by rfl) (by rfl) (by rfl) ⟨rfl, rfl, rfl, rfl, rfl, rfl, rfl, rfl, rfl, rfl, rfl, rfl, rfl, rfl, rfl, rfl, rfl, rfl, rfl, rfl, rfl, rfl, trivial⟩ (by rfl) (by rfl) (by omega) (by show 22 ≤ 23; omega) (by omega) (by omega) rfl rfl ?_
    have hb_q6 := jbp_b5 (p := t) (by omega)
    generalize hq_q6 : jbp5 t = q6 at hb_q6 ⊢
    refine jT_adv 1 (pcN := 36) (LN := [(4, (0, 5)), (3, (0, t)), (1, (0, 1)), (2, (4, 22)), (0, (4, 0))]) (stN := []) (hsN := [jzS_244, (100, [], jS0), jgh, jgh, jgh, jgh, (130, [], [16, 17, 18, 19, 20, 21]), jgh, jgh, jgh, jgh, jgh, jgh, jgh, jgh, jgh, (100, [], (jenc (jlg 0))), (100, [], (jenc (jlg 1))), (100, [], (jenc (jlg 2))), (100, [], (jenc (jlg 3))), (100, [], (jenc (jlg 4))), (100, [], (jenc (jlg 5))), (100, [], [q1, q2, q3, q4, q5, q6])]) (c1 := 0) (s1 := 0) (c2 := (b1 + 372 * q + 0)) (s2 := (b2 + 19332 * q + 0)) (by exact rfl) ?_ (by omega) (by omega)
    refine jT_xiinc (x := 5) (z := 6) (LN := [(4, (0, 6)), (3, (0, t)), (1, (0, 1)), (2, (4, 22)), (0, (4, 0))]) (pcN := 39) jIS_324_36 rfl rfl (by decide) rfl rfl ?_
    refine jT_xgoto (pcN := 18) jIS_324_39 rfl ?_
    refine jT_xiload (v := (0, 6)) (pcN := 20) jIS_324_18 rfl rfl rfl ?_
    refine jT_xbipush (k := 6) (pcN := 22) jIS_324_20 (by decide) rfl ?_
    refine jT_xicT (pcN := 42) jIS_324_22 rfl (by decide +kernel) rfl ?_
    refine jT_xiconst (k := 0) (pcN := 43) jIS_324_42 rfl ?_
    refine jT_xistore (v := (0, 0)) (LN := [(4, (0, 0)), (3, (0, t)), (1, (0, 1)), (2, (4, 22)), (0, (4, 0))]) (pcN := 45) jIS_324_43 rfl rfl rfl rfl ?_
    refine jT_loc (LN := [(4, (0, 0)), (1, (0, 1)), (3, (0, t)), (2, (4, 22)), (0, (4, 0))]) (by show List.Nodup [4, 1, 3, 2, 0]; decide) (by intro q hq; simp only [List.mem_cons, List.not_mem_nil, or_false] at hq; rcases hq with rfl | rfl | rfl | rfl | rfl <;> rfl) ?_
    refine jT.mono (jSl_gc_239 (b1 := (b1 + 372 * q + 0)) (b2 := (b2 + 19332 * q + 0)) (by omega) (y3 := t) (k22_0 := q1) (k22_1 := q2) (k22_2 := q3) (k22_3 := q4) (k22_4 := q5) (k22_5 := q6) (by omega) (by omega) (by omega) (by omega) (by omega) (by omega) (by omega) ?_ ((8 : Int) - 0).toNat 0 (by omega) (by omega)) (Nat.le_refl _) (by omega) (by omega) (fun _ _ _ z => z)
    refine jT_xiinc (x := t) (z := t + 1) (LN := [(3, (0, t + 1)), (1, (0, 1)), (2, (4, 22)), (0, (4, 0))]) (pcN := 133) jIS_324_130 rfl rfl (rfl) rfl rfl ?_
    refine jT_xgoto (pcN := 9) jIS_324_133 rfl ?_
    refine jT_loc (LN := [(3, (0, t + 1)), (1, (0, 1)), (2, (4, 22)), (0, (4, 0))]) (by show List.Nodup [3, 1, 2, 0]; decide) (by intro q hq; simp only [List.mem_cons, List.not_mem_nil, or_false] at hq; rcases hq with rfl | rfl | rfl | rfl <;> rfl) ?_
    exact ih (t + 1) q1 q2 q3 q4 q5 q6 (by omega) (by omega)
def jpS_584 : List JC := [jzS_244, (100, [], jS0), jgh, jgh, jgh, jgh, (130, [], [16, 17, 18, 19, 20, 21]), jgh, jgh, jgh, jgh, jgh, jgh, jgh, jgh, jgh, (100, [], (jenc (jlg 0))), (100, [], (jenc (jlg 1))), (100, [], (jenc (jlg 2))), (100, [], (jenc (jlg 3))), (100, [], (jenc (jlg 4))), (100, [], (jenc (jlg 5))), jgh]
def jpS_585 : List JC := [jzS_244, (100, [], jS0), jgh, jgh, jgh, jgh, (130, [], [16, 17, 18, 19, 20, 21]), jgh, jgh, jgh, jgh, jgh, jgh, jgh, jgh, jgh, (100, [], (jenc (jlg 0))), (100, [], (jenc (jlg 1))), (100, [], (jenc (jlg 2))), (100, [], (jenc (jlg 3))), (100, [], (jenc (jlg 4))), (100, [], (jenc (jlg 5)))]
theorem jS_324_241 {xs : List Int} {d : Nat} : jT xs (d + 9) 324 22 0 [(0, (4, 0))] [] jpS_585 22321 1159926 (fun k v hsN => k = 0 ∧ v = (0, 1) ∧ hsN = jpS_585 ++ [jgh]) := by
  refine jT_advK 7 (pcN := 9) (LN := [(3, (0, 1)), (2, (4, 22)), (1, (0, 1)), (0, (4, 0))]) (stN := []) (hsN := jpS_522) (c1 := 1) (s1 := 6) (c2 := 22320) (s2 := 1159920) (by decide +kernel) ?_ (by omega) (by omega)
  refine jT_loc (LN := [(3, (0, 1)), (1, (0, 1)), (2, (4, 22)), (0, (4, 0))]) (by show List.Nodup [3, 1, 2, 0]; decide) (by intro q hq; simp only [List.mem_cons, List.not_mem_nil, or_false] at hq; rcases hq with rfl | rfl | rfl | rfl <;> rfl) ?_
  refine jT.mono (jSl_gc_238 (b1 := 0) (b2 := 0) (by omega)   (fun u22_0 u22_1 u22_2 u22_3 u22_4 u22_5 => ?_) ((61 : Int) - 1).toNat 1 0 0 0 0 0 0 (by omega) (by omega)) (Nat.le_refl _) (by omega) (by omega) (fun _ _ _ z => z)
  refine jT_forget (a := 22) (c := (100, [], [u22_0, u22_1, u22_2, u22_3, u22_4, u22_5])) rfl rfl ?_
  refine jT_eq (LN := [(1, (0, 1))]) (stN := []) (hsN := jpS_584) rfl rfl rfl ?_
  refine jT_advK 1 (pcN := 137) (LN := [(1, (0, 1))]) (stN := [(0, 1)]) (hsN := jpS_584) (c1 := 0) (s1 := 0) (c2 := 0) (s2 := 0) (by decide +kernel) ?_ (by omega) (by omega)
  exact jT_ret rfl (by decide) (by show 22 ≤ 23; omega) (by omega) (by omega) ⟨rfl, rfl, rfl⟩
theorem jS_325_242 {xs : List Int} {d : Nat} {k226_0 k226_1 k226_2 k226_3 k226_4 k226_5 t y4 : Int} (h_k226_0 : 1 ≤ k226_0 ∧ k226_0 ≤ 4001) (h_k226_1 : 1 ≤ k226_1 ∧ k226_1 ≤ 4001) (h_k226_2 : 1 ≤ k226_2 ∧ k226_2 ≤ 4001) (h_k226_3 : 1 ≤ k226_3 ∧ k226_3 ≤ 4001) (h_k226_4 : 1 ≤ k226_4 ∧ k226_4 ≤ 4001) (h_k226_5 : 1 ≤ k226_5 ∧ k226_5 ≤ 4001) (h_t : 0 ≤ t ∧ t ≤ 7) (h_y4 : 0 ≤ y4 ∧ y4 ≤ 7) (g_0 : t - 8 < 0) : jT xs d 325 17 0 [(0, (4, 0)), (1, (0, y4)), (2, (0, t)), (3, (4, 1))] [] [jzS_251, (100, [], [k226_0, k226_1, k226_2, k226_3, k226_4, k226_5]), (100, [], jS0), jgh, jgh, jgh, jgh, jgh, jgh, jgh, jgh, jgh, jgh, jgh, jgh, jgh, jgh] 0 0 (fun k v hsN => k = 0 ∧ v = (0, 1) ∧ hsN = [jzS_251, (100, [], [k226_0, k226_1, k226_2, k226_3, k226_4, k226_5]), (100, [], jS0), jgh, jgh, jgh, jgh, jgh, jgh, jgh, jgh, jgh, jgh, jgh, jgh, jgh, jgh] ++ []) := by
  refine jT_xiconst (k := 0) (pcN := 1) jIS_325_0 rfl ?_
  refine jT_xistore (v := (0, 0)) (LN := [(4, (0, 0)), (0, (4, 0)), (1, (0, y4)), (2, (0, t)), (3, (4, 1))]) (pcN := 3) jIS_325_1 rfl rfl rfl rfl ?_
  refine jT_xiconst (k := 0) (pcN := 4) jIS_325_3 rfl ?_
  refine jT_xistore (v := (0, 0)) (LN := [(5, (0, 0)), (4, (0, 0)), (0, (4, 0)), (1, (0, y4)), (2, (0, t)), (3, (4, 1))]) (pcN := 6) jIS_325_4 rfl rfl rfl rfl ?_
  refine jT_xiconst (k := 0) (pcN := 7) jIS_325_6 rfl ?_
  refine jT_xistore (v := (0, 0)) (LN := [(6, (0, 0)), (5, (0, 0)), (4, (0, 0)), (0, (4, 0)), (1, (0, y4)), (2, (0, t)), (3, (4, 1))]) (pcN := 9) jIS_325_7 rfl rfl rfl rfl ?_
  refine jT_xiconst (k := 0) (pcN := 10) jIS_325_9 rfl ?_
  refine jT_xistore (v := (0, 0)) (LN := [(7, (0, 0)), (6, (0, 0)), (5, (0, 0)), (4, (0, 0)), (0, (4, 0)), (1, (0, y4)), (2, (0, t)), (3, (4, 1))]) (pcN := 12) jIS_325_10 rfl rfl rfl rfl ?_
  refine jT_xiload (v := (0, 0)) (pcN := 14) jIS_325_12 rfl rfl rfl ?_
  refine jT_xbipush (k := 6) (pcN := 16) jIS_325_14 (by decide) rfl ?_
  refine jT_xicF (t := 104) (pcN := 19) jIS_325_16 rfl (by decide +kernel) rfl rfl ?_
  refine jT_xiload (v := (0, 0)) (pcN := 21) jIS_325_19 rfl rfl rfl ?_
  refine jT_xaload_n (v := (4, 0)) (pcN := 22) jIS_325_21 rfl rfl rfl ?_
  refine jT_xgetf (a := 0) (t := 1) (ci := 14) (fi := 1) (c := jzS_251) (v := (4, 2)) (pcN := 25) jIS_325_22 rfl rfl rfl rfl rfl rfl rfl ?_
  refine jT_xbipush (k := 7) (pcN := 27) jIS_325_25 (by decide) rfl ?_
  refine jT_xiload_n (v := (0, y4)) (pcN := 28) jIS_325_27 rfl rfl rfl ?_
  refine jT_ximul (x := 7) (y := y4) (z := 7 * y4) (pcN := 29) jIS_325_28 rfl (rfl) rfl ?_
  refine jT_xiload (v := (0, 0)) (pcN := 31) jIS_325_29 rfl rfl rfl ?_
  refine jT_xiadd (x := 7 * y4) (y := 0) (z := 7 * y4) (pcN := 32) jIS_325_31 rfl (by omega) rfl ?_
  refine jT_iald (x := 0) (a := 2) (j := (7 * y4).toNat) (fs := []) (X := jS0) (by rfl) (by rfl) (by rfl) (jw_nn (by omega) (by omega)) (jS0_r0 (by omega) (by omega)) ?_
  refine jT_eq (LN := [(7, (0, 0)), (6, (0, 0)), (5, (0, 0)), (4, (0, 0)), (0, (4, 0)), (1, (0, y4)), (2, (0, t)), (3, (4, 1))]) (stN := [(0, 0), (0, 0)]) (hsN := [jzS_251, (100, [], [k226_0, k226_1, k226_2, k226_3, k226_4, k226_5]), (100, [], jS0), jgh, jgh, jgh, jgh, jgh, jgh, jgh, jgh, jgh, jgh, jgh, jgh, jgh, jgh]) rfl rfl rfl ?_
  refine jT_xaload_n (v := (4, 1)) (pcN := 34) jIS_325_33 rfl rfl rfl ?_
  refine jT_xiload (v := (0, 0)) (pcN := 36) jIS_325_34 rfl rfl rfl ?_
  refine jT_iald (x := k226_0) (a := 1) (j := 0) (fs := []) (X := [k226_0, k226_1, k226_2, k226_3, k226_4, k226_5]) jIS_325_36 rfl rfl rfl rfl ?_
  refine jT_eq (LN := [(7, (0, 0)), (6, (0, 0)), (5, (0, 0)), (4, (0, 0)), (0, (4, 0)), (1, (0, y4)), (2, (0, t)), (3, (4, 1))]) (stN := [(0, k226_0), (0, 0), (0, 0)]) (hsN := [jzS_251, (100, [], [k226_0, k226_1, k226_2, k226_3, k226_4, k226_5]), (100, [], jS0), jgh, jgh, jgh, jgh, jgh, jgh, jgh, jgh, jgh, jgh, jgh, jgh, jgh, jgh]) rfl rfl rfl ?_
  refine jT_ximul (x := 0) (y := k226_0) (z := 0) (pcN := 38) jIS_325_37 rfl (by omega) rfl ?_
  refine jT_xiadd (x := 0) (y := 0) (z := 0) (pcN := 39) jIS_325_38 rfl (by decide) rfl ?_
  refine jT_xistore (v := (0, 0)) (LN := [(4, (0, 0)), (7, (0, 0)), (6, (0, 0)), (5, (0, 0)), (0, (4, 0)), (1, (0, y4)), (2, (0, t)), (3, (4, 1))]) (pcN := 41) jIS_325_39 rfl rfl rfl rfl ?_
  refine jT_xiload (v := (0, 0)) (pcN := 43) jIS_325_41 rfl rfl rfl ?_
  refine jT_xaload_n (v := (4, 0)) (pcN := 44) jIS_325_43 rfl rfl rfl ?_
  refine jT_xgetf (a := 0) (t := 1) (ci := 14) (fi := 1) (c := jzS_251) (v := (4, 2)) (pcN := 47) jIS_325_44 rfl rfl rfl rfl rfl rfl rfl ?_
  refine jT_xbipush (k := 7) (pcN := 49) jIS_325_47 (by decide) rfl ?_
  refine jT_xiload_n (v := (0, t)) (pcN := 50) jIS_325_49 rfl rfl rfl ?_
  refine jT_ximul (x := 7) (y := t) (z := 7 * t) (pcN := 51) jIS_325_50 rfl (rfl) rfl ?_
  refine jT_xiload (v := (0, 0)) (pcN := 53) jIS_325_51 rfl rfl rfl ?_
  refine jT_xiadd (x := 7 * t) (y := 0) (z := 7 * t) (pcN := 54) jIS_325_53 rfl (by omega) rfl ?_
  refine jT_iald (x := 0) (a := 2) (j := (7 * t).toNat) (fs := []) (X := jS0) (by rfl) (by rfl) (by rfl) (jw_nn (by omega) (by omega)) (jS0_r0 (by omega) (by omega)) ?_
  refine jT_eq (LN := [(4, (0, 0)), (7, (0, 0)), (6, (0, 0)), (5, (0, 0)), (0, (4, 0)), (1, (0, y4)), (2, (0, t)), (3, (4, 1))]) (stN := [(0, 0), (0, 0)]) (hsN := [jzS_251, (100, [], [k226_0, k226_1, k226_2, k226_3, k226_4, k226_5]), (100, [], jS0), jgh, jgh, jgh, jgh, jgh, jgh, jgh, jgh, jgh, jgh, jgh, jgh, jgh, jgh]) rfl rfl rfl ?_
  refine jT_xaload_n (v := (4, 1)) (pcN := 56) jIS_325_55 rfl rfl rfl ?_
  refine jT_xiload (v := (0, 0)) (pcN := 58) jIS_325_56 rfl rfl rfl ?_
  refine jT_iald (x := k226_0) (a := 1) (j := 0) (fs := []) (X := [k226_0, k226_1, k226_2, k226_3, k226_4, k226_5]) jIS_325_58 rfl rfl rfl rfl ?_
  refine jT_eq (LN := [(4, (0, 0)), (7, (0, 0)), (6, (0, 0)), (5, (0, 0)), (0, (4, 0)), (1, (0, y4)), (2, (0, t)), (3, (4, 1))]) (stN := [(0, k226_0), (0, 0), (0, 0)]) (hsN := [jzS_251, (100, [], [k226_0, k226_1, k226_2, k226_3, k226_4, k226_5]), (100, [], jS0), jgh, jgh, jgh, jgh, jgh, jgh, jgh, jgh, jgh, jgh, jgh, jgh, jgh, jgh]) rfl rfl rfl ?_
  refine jT_ximul (x := 0) (y := k226_0) (z := 0) (pcN := 60) jIS_325_59 rfl (by omega) rfl ?_
  refine jT_xiadd (x := 0) (y := 0) (z := 0) (pcN := 61) jIS_325_60 rfl (by decide) rfl ?_
  refine jT_xistore (v := (0, 0)) (LN := [(5, (0, 0)), (4, (0, 0)), (7, (0, 0)), (6, (0, 0)), (0, (4, 0)), (1, (0, y4)), (2, (0, t)), (3, (4, 1))]) (pcN := 63) jIS_325_61 rfl rfl rfl rfl ?_
  refine jT_xiload (v := (0, 0)) (pcN := 65) jIS_325_63 rfl rfl rfl ?_
  refine jT_xaload_n (v := (4, 0)) (pcN := 66) jIS_325_65 rfl rfl rfl ?_
  refine jT_xgetf (a := 0) (t := 1) (ci := 14) (fi := 1) (c := jzS_251) (v := (4, 2)) (pcN := 69) jIS_325_66 rfl rfl rfl rfl rfl rfl rfl ?_
  refine jT_xbipush (k := 7) (pcN := 71) jIS_325_69 (by decide) rfl ?_
  refine jT_xiload_n (v := (0, y4)) (pcN := 72) jIS_325_71 rfl rfl rfl ?_
  refine jT_ximul (x := 7) (y := y4) (z := 7 * y4) (pcN := 73) jIS_325_72 rfl (rfl) rfl ?_
  refine jT_xiload (v := (0, 0)) (pcN := 75) jIS_325_73 rfl rfl rfl ?_
  refine jT_xiadd (x := 7 * y4) (y := 0) (z := 7 * y4) (pcN := 76) jIS_325_75 rfl (by omega) rfl ?_
  refine jT_iald (x := 0) (a := 2) (j := (7 * y4).toNat) (fs := []) (X := jS0) (by rfl) (by rfl) (by rfl) (jw_nn (by omega) (by omega)) (jS0_r0 (by omega) (by omega)) ?_
  refine jT_eq (LN := [(5, (0, 0)), (4, (0, 0)), (7, (0, 0)), (6, (0, 0)), (0, (4, 0)), (1, (0, y4)), (2, (0, t)), (3, (4, 1))]) (stN := [(0, 0), (0, 0)]) (hsN := [jzS_251, (100, [], [k226_0, k226_1, k226_2, k226_3, k226_4, k226_5]), (100, [], jS0), jgh, jgh, jgh, jgh, jgh, jgh, jgh, jgh, jgh, jgh, jgh, jgh, jgh, jgh]) rfl rfl rfl ?_
  refine jT_xaload_n (v := (4, 0)) (pcN := 78) jIS_325_77 rfl rfl rfl ?_
  refine jT_xgetf (a := 0) (t := 1) (ci := 14) (fi := 1) (c := jzS_251) (v := (4, 2)) (pcN := 81) jIS_325_78 rfl rfl rfl rfl rfl rfl rfl ?_
  refine jT_xbipush (k := 7) (pcN := 83) jIS_325_81 (by decide) rfl ?_
  refine jT_xiload_n (v := (0, t)) (pcN := 84) jIS_325_83 rfl rfl rfl ?_
  refine jT_ximul (x := 7) (y := t) (z := 7 * t) (pcN := 85) jIS_325_84 rfl (rfl) rfl ?_
  refine jT_xiload (v := (0, 0)) (pcN := 87) jIS_325_85 rfl rfl rfl ?_
  refine jT_xiadd (x := 7 * t) (y := 0) (z := 7 * t) (pcN := 88) jIS_325_87 rfl (by omega) rfl ?_
  refine jT_iald (x := 0) (a := 2) (j := (7 * t).toNat) (fs := []) (X := jS0) (by rfl) (by rfl) (by rfl) (jw_nn (by omega) (by omega)) (jS0_r0 (by omega) (by omega)) ?_
  refine jT_eq (LN := [(5, (0, 0)), (4, (0, 0)), (7, (0, 0)), (6, (0, 0)), (0, (4, 0)), (1, (0, y4)), (2, (0, t)), (3, (4, 1))]) (stN := [(0, 0), (0, 0), (0, 0)]) (hsN := [jzS_251, (100, [], [k226_0, k226_1, k226_2, k226_3, k226_4, k226_5]), (100, [], jS0), jgh, jgh, jgh, jgh, jgh, jgh, jgh, jgh, jgh, jgh, jgh, jgh, jgh, jgh]) rfl rfl rfl ?_
  refine jT_xiadd (x := 0) (y := 0) (z := 0) (pcN := 90) jIS_325_89 rfl (by decide) rfl ?_
  refine jT_xaload_n (v := (4, 1)) (pcN := 91) jIS_325_90 rfl rfl rfl ?_
  refine jT_xiload (v := (0, 0)) (pcN := 93) jIS_325_91 rfl rfl rfl ?_
  refine jT_iald (x := k226_0) (a := 1) (j := 0) (fs := []) (X := [k226_0, k226_1, k226_2, k226_3, k226_4, k226_5]) jIS_325_93 rfl rfl rfl rfl ?_
  refine jT_eq (LN := [(5, (0, 0)), (4, (0, 0)), (7, (0, 0)), (6, (0, 0)), (0, (4, 0)), (1, (0, y4)), (2, (0, t)), (3, (4, 1))]) (stN := [(0, k226_0), (0, 0), (0, 0)]) (hsN := [jzS_251, (100, [], [k226_0, k226_1, k226_2, k226_3, k226_4, k226_5]), (100, [], jS0), jgh, jgh, jgh, jgh, jgh, jgh, jgh, jgh, jgh, jgh, jgh, jgh, jgh, jgh]) rfl rfl rfl ?_
  refine jT_ximul (x := 0) (y := k226_0) (z := 0) (pcN := 95) jIS_325_94 rfl (by omega) rfl ?_
  refine jT_xiadd (x := 0) (y := 0) (z := 0) (pcN := 96) jIS_325_95 rfl (by decide) rfl ?_
  refine jT_xistore (v := (0, 0)) (LN := [(6, (0, 0)), (5, (0, 0)), (4, (0, 0)), (7, (0, 0)), (0, (4, 0)), (1, (0, y4)), (2, (0, t)), (3, (4, 1))]) (pcN := 98) jIS_325_96 rfl rfl rfl rfl ?_
  refine jT_xiinc (x := 0) (z := 1) (LN := [(7, (0, 1)), (6, (0, 0)), (5, (0, 0)), (4, (0, 0)), (0, (4, 0)), (1, (0, y4)), (2, (0, t)), (3, (4, 1))]) (pcN := 101) jIS_325_98 rfl rfl (by decide) rfl rfl ?_
  refine jT_xgoto (pcN := 12) jIS_325_101 rfl ?_
  refine jT_xiload (v := (0, 1)) (pcN := 14) jIS_325_12 rfl rfl rfl ?_
  refine jT_xbipush (k := 6) (pcN := 16) jIS_325_14 (by decide) rfl ?_
  refine jT_xicF (t := 104) (pcN := 19) jIS_325_16 rfl (by decide +kernel) rfl rfl ?_
  refine jT_xiload (v := (0, 0)) (pcN := 21) jIS_325_19 rfl rfl rfl ?_
  refine jT_xaload_n (v := (4, 0)) (pcN := 22) jIS_325_21 rfl rfl rfl ?_
  refine jT_xgetf (a := 0) (t := 1) (ci := 14) (fi := 1) (c := jzS_251) (v := (4, 2)) (pcN := 25) jIS_325_22 rfl rfl rfl rfl rfl rfl rfl ?_
  refine jT_xbipush (k := 7) (pcN := 27) jIS_325_25 (by decide) rfl ?_
  refine jT_xiload_n (v := (0, y4)) (pcN := 28) jIS_325_27 rfl rfl rfl ?_
  refine jT_ximul (x := 7) (y := y4) (z := 7 * y4) (pcN := 29) jIS_325_28 rfl (rfl) rfl ?_
  refine jT_xiload (v := (0, 1)) (pcN := 31) jIS_325_29 rfl rfl rfl ?_
  refine jT_xiadd (x := 7 * y4) (y := 1) (z := 7 * y4 + 1) (pcN := 32) jIS_325_31 rfl (by omega) rfl ?_
  refine jT_iald (x := 0) (a := 2) (j := (7 * y4 + 1).toNat) (fs := []) (X := jS0) (by rfl) (by rfl) (by rfl) (jw_nn (by omega) (by omega)) (jS0_r1 (by omega) (by omega)) ?_
  refine jT_eq (LN := [(7, (0, 1)), (6, (0, 0)), (5, (0, 0)), (4, (0, 0)), (0, (4, 0)), (1, (0, y4)), (2, (0, t)), (3, (4, 1))]) (stN := [(0, 0), (0, 0)]) (hsN := [jzS_251, (100, [], [k226_0, k226_1, k226_2, k226_3, k226_4, k226_5]), (100, [], jS0), jgh, jgh, jgh, jgh, jgh, jgh, jgh, jgh, jgh, jgh, jgh, jgh, jgh, jgh]) rfl rfl rfl ?_
  refine jT_xaload_n (v := (4, 1)) (pcN := 34) jIS_325_33 rfl rfl rfl ?_
  refine jT_xiload (v := (0, 1)) (pcN := 36) jIS_325_34 rfl rfl rfl ?_
  refine jT_iald (x := k226_1) (a := 1) (j := 1) (fs := []) (X := [k226_0, k226_1, k226_2, k226_3, k226_4, k226_5]) jIS_325_36 rfl rfl rfl rfl ?_
  refine jT_eq (LN := [(7, (0, 1)), (6, (0, 0)), (5, (0, 0)), (4, (0, 0)), (0, (4, 0)), (1, (0, y4)), (2, (0, t)), (3, (4, 1))]) (stN := [(0, k226_1), (0, 0), (0, 0)]) (hsN := [jzS_251, (100, [], [k226_0, k226_1, k226_2, k226_3, k226_4, k226_5]), (100, [], jS0), jgh, jgh, jgh, jgh, jgh, jgh, jgh, jgh, jgh, jgh, jgh, jgh, jgh, jgh]) rfl rfl rfl ?_
  refine jT_ximul (x := 0) (y := k226_1) (z := 0) (pcN := 38) jIS_325_37 rfl (by omega) rfl ?_
  refine jT_xiadd (x := 0) (y := 0) (z := 0) (pcN := 39) jIS_325_38 rfl (by decide) rfl ?_
  refine jT_xistore (v := (0, 0)) (LN := [(4, (0, 0)), (7, (0, 1)), (6, (0, 0)), (5, (0, 0)), (0, (4, 0)), (1, (0, y4)), (2, (0, t)), (3, (4, 1))]) (pcN := 41) jIS_325_39 rfl rfl rfl rfl ?_
  refine jT_xiload (v := (0, 0)) (pcN := 43) jIS_325_41 rfl rfl rfl ?_
  refine jT_xaload_n (v := (4, 0)) (pcN := 44) jIS_325_43 rfl rfl rfl ?_
  refine jT_xgetf (a := 0) (t := 1) (ci := 14) (fi := 1) (c := jzS_251) (v := (4, 2)) (pcN := 47) jIS_325_44 rfl rfl rfl rfl rfl rfl rfl ?_
  refine jT_xbipush (k := 7) (pcN := 49) jIS_325_47 (by decide) rfl ?_
  refine jT_xiload_n (v := (0, t)) (pcN := 50) jIS_325_49 rfl rfl rfl ?_
  refine jT_ximul (x := 7) (y := t) (z := 7 * t) (pcN := 51) jIS_325_50 rfl (rfl) rfl ?_
  refine jT_xiload (v := (0, 1)) (pcN := 53) jIS_325_51 rfl rfl rfl ?_
  refine jT_xiadd (x := 7 * t) (y := 1) (z := 7 * t + 1) (pcN := 54) jIS_325_53 rfl (by omega) rfl ?_
  refine jT_iald (x := 0) (a := 2) (j := (7 * t + 1).toNat) (fs := []) (X := jS0) (by rfl) (by rfl) (by rfl) (jw_nn (by omega) (by omega)) (jS0_r1 (by omega) (by omega)) ?_
  refine jT_eq (LN := [(4, (0, 0)), (7, (0, 1)), (6, (0, 0)), (5, (0, 0)), (0, (4, 0)), (1, (0, y4)), (2, (0, t)), (3, (4, 1))]) (stN := [(0, 0), (0, 0)]) (hsN := [jzS_251, (100, [], [k226_0, k226_1, k226_2, k226_3, k226_4, k226_5]), (100, [], jS0), jgh, jgh, jgh, jgh, jgh, jgh, jgh, jgh, jgh, jgh, jgh, jgh, jgh, jgh]) rfl rfl rfl ?_
  refine jT_xaload_n (v := (4, 1)) (pcN := 56) jIS_325_55 rfl rfl rfl ?_
  refine jT_xiload (v := (0, 1)) (pcN := 58) jIS_325_56 rfl rfl rfl ?_
  refine jT_iald (x := k226_1) (a := 1) (j := 1) (fs := []) (X := [k226_0, k226_1, k226_2, k226_3, k226_4, k226_5]) jIS_325_58 rfl rfl rfl rfl ?_
  refine jT_eq (LN := [(4, (0, 0)), (7, (0, 1)), (6, (0, 0)), (5, (0, 0)), (0, (4, 0)), (1, (0, y4)), (2, (0, t)), (3, (4, 1))]) (stN := [(0, k226_1), (0, 0), (0, 0)]) (hsN := [jzS_251, (100, [], [k226_0, k226_1, k226_2, k226_3, k226_4, k226_5]), (100, [], jS0), jgh, jgh, jgh, jgh, jgh, jgh, jgh, jgh, jgh, jgh, jgh, jgh, jgh, jgh]) rfl rfl rfl ?_
  refine jT_ximul (x := 0) (y := k226_1) (z := 0) (pcN := 60) jIS_325_59 rfl (by omega) rfl ?_
  refine jT_xiadd (x := 0) (y := 0) (z := 0) (pcN := 61) jIS_325_60 rfl (by decide) rfl ?_
  refine jT_xistore (v := (0, 0)) (LN := [(5, (0, 0)), (4, (0, 0)), (7, (0, 1)), (6, (0, 0)), (0, (4, 0)), (1, (0, y4)), (2, (0, t)), (3, (4, 1))]) (pcN := 63) jIS_325_61 rfl rfl rfl rfl ?_
  refine jT_xiload (v := (0, 0)) (pcN := 65) jIS_325_63 rfl rfl rfl ?_
  refine jT_xaload_n (v := (4, 0)) (pcN := 66) jIS_325_65 rfl rfl rfl ?_
  refine jT_xgetf (a := 0) (t := 1) (ci := 14) (fi := 1) (c := jzS_251) (v := (4, 2)) (pcN := 69) jIS_325_66 rfl rfl rfl rfl rfl rfl rfl ?_
  refine jT_xbipush (k := 7) (pcN := 71) jIS_325_69 (by decide) rfl ?_
  refine jT_xiload_n (v := (0, y4)) (pcN := 72) jIS_325_71 rfl rfl rfl ?_
  refine jT_ximul (x := 7) (y := y4) (z := 7 * y4) (pcN := 73) jIS_325_72 rfl (rfl) rfl ?_
  refine jT_xiload (v := (0, 1)) (pcN := 75) jIS_325_73 rfl rfl rfl ?_
  refine jT_xiadd (x := 7 * y4) (y := 1) (z := 7 * y4 + 1) (pcN := 76) jIS_325_75 rfl (by omega) rfl ?_
  refine jT_iald (x := 0) (a := 2) (j := (7 * y4 + 1).toNat) (fs := []) (X := jS0) (by rfl) (by rfl) (by rfl) (jw_nn (by omega) (by omega)) (jS0_r1 (by omega) (by omega)) ?_
  refine jT_eq (LN := [(5, (0, 0)), (4, (0, 0)), (7, (0, 1)), (6, (0, 0)), (0, (4, 0)), (1, (0, y4)), (2, (0, t)), (3, (4, 1))]) (stN := [(0, 0), (0, 0)]) (hsN := [jzS_251, (100, [], [k226_0, k226_1, k226_2, k226_3, k226_4, k226_5]), (100, [], jS0), jgh, jgh, jgh, jgh, jgh, jgh, jgh, jgh, jgh, jgh, jgh, jgh, jgh, jgh]) rfl rfl rfl ?_
  refine jT_xaload_n (v := (4, 0)) (pcN := 78) jIS_325_77 rfl rfl rfl ?_
  refine jT_xgetf (a := 0) (t := 1) (ci := 14) (fi := 1) (c := jzS_251) (v := (4, 2)) (pcN := 81) jIS_325_78 rfl rfl rfl rfl rfl rfl rfl ?_
  refine jT_xbipush (k := 7) (pcN := 83) jIS_325_81 (by decide) rfl ?_
  refine jT_xiload_n (v := (0, t)) (pcN := 84) jIS_325_83 rfl rfl rfl ?_
  refine jT_ximul (x := 7) (y := t) (z := 7 * t) (pcN := 85) jIS_325_84 rfl (rfl) rfl ?_
  refine jT_xiload (v := (0, 1)) (pcN := 87) jIS_325_85 rfl rfl rfl ?_
  refine jT_xiadd (x := 7 * t) (y := 1) (z := 7 * t + 1) (pcN := 88) jIS_325_87 rfl (by omega) rfl ?_
  refine jT_iald (x := 0) (a := 2) (j := (7 * t + 1).toNat) (fs := []) (X := jS0) (by rfl) (by rfl) (by rfl) (jw_nn (by omega) (by omega)) (jS0_r1 (by omega) (by omega)) ?_
  refine jT_eq (LN := [(5, (0, 0)), (4, (0, 0)), (7, (0, 1)), (6, (0, 0)), (0, (4, 0)), (1, (0, y4)), (2, (0, t)), (3, (4, 1))]) (stN := [(0, 0), (0, 0), (0, 0)]) (hsN := [jzS_251, (100, [], [k226_0, k226_1, k226_2, k226_3, k226_4, k226_5]), (100, [], jS0), jgh, jgh, jgh, jgh, jgh, jgh, jgh, jgh, jgh, jgh, jgh, jgh, jgh, jgh]) rfl rfl rfl ?_
  refine jT_xiadd (x := 0) (y := 0) (z := 0) (pcN := 90) jIS_325_89 rfl (by decide) rfl ?_
  refine jT_xaload_n (v := (4, 1)) (pcN := 91) jIS_325_90 rfl rfl rfl ?_
  refine jT_xiload (v := (0, 1)) (pcN := 93) jIS_325_91 rfl rfl rfl ?_
  refine jT_iald (x := k226_1) (a := 1) (j := 1) (fs := []) (X := [k226_0, k226_1, k226_2, k226_3, k226_4, k226_5]) jIS_325_93 rfl rfl rfl rfl ?_
  refine jT_eq (LN := [(5, (0, 0)), (4, (0, 0)), (7, (0, 1)), (6, (0, 0)), (0, (4, 0)), (1, (0, y4)), (2, (0, t)), (3, (4, 1))]) (stN := [(0, k226_1), (0, 0), (0, 0)]) (hsN := [jzS_251, (100, [], [k226_0, k226_1, k226_2, k226_3, k226_4, k226_5]), (100, [], jS0), jgh, jgh, jgh, jgh, jgh, jgh, jgh, jgh, jgh, jgh, jgh, jgh, jgh, jgh]) rfl rfl rfl ?_
  refine jT_ximul (x := 0) (y := k226_1) (z := 0) (pcN := 95) jIS_325_94 rfl (by omega) rfl ?_
  refine jT_xiadd (x := 0) (y := 0) (z := 0) (pcN := 96) jIS_325_95 rfl (by decide) rfl ?_
  refine jT_xistore (v := (0, 0)) (LN := [(6, (0, 0)), (5, (0, 0)), (4, (0, 0)), (7, (0, 1)), (0, (4, 0)), (1, (0, y4)), (2, (0, t)), (3, (4, 1))]) (pcN := 98) jIS_325_96 rfl rfl rfl rfl ?_
  refine jT_xiinc (x := 1) (z := 2) (LN := [(7, (0, 2)), (6, (0, 0)), (5, (0, 0)), (4, (0, 0)), (0, (4, 0)), (1, (0, y4)), (2, (0, t)), (3, (4, 1))]) (pcN := 101) jIS_325_98 rfl rfl (by decide) rfl rfl ?_
  refine jT_xgoto (pcN := 12) jIS_325_101 rfl ?_
  refine jT_xiload (v := (0, 2)) (pcN := 14) jIS_325_12 rfl rfl rfl ?_
  refine jT_xbipush (k := 6) (pcN := 16) jIS_325_14 (by decide) rfl ?_
  refine jT_xicF (t := 104) (pcN := 19) jIS_325_16 rfl (by decide +kernel) rfl rfl ?_
  refine jT_xiload (v := (0, 0)) (pcN := 21) jIS_325_19 rfl rfl rfl ?_
  refine jT_xaload_n (v := (4, 0)) (pcN := 22) jIS_325_21 rfl rfl rfl ?_
  refine jT_xgetf (a := 0) (t := 1) (ci := 14) (fi := 1) (c := jzS_251) (v := (4, 2)) (pcN := 25) jIS_325_22 rfl rfl rfl rfl rfl rfl rfl ?_
  refine jT_xbipush (k := 7) (pcN := 27) jIS_325_25 (by decide) rfl ?_
  refine jT_xiload_n (v := (0, y4)) (pcN := 28) jIS_325_27 rfl rfl rfl ?_
  refine jT_ximul (x := 7) (y := y4) (z := 7 * y4) (pcN := 29) jIS_325_28 rfl (rfl) rfl ?_
  refine jT_xiload (v := (0, 2)) (pcN := 31) jIS_325_29 rfl rfl rfl ?_
  refine jT_xiadd (x := 7 * y4) (y := 2) (z := 7 * y4 + 2) (pcN := 32) jIS_325_31 rfl (by omega) rfl ?_
  refine jT_iald (x := 0) (a := 2) (j := (7 * y4 + 2).toNat) (fs := []) (X := jS0) (by rfl) (by rfl) (by rfl) (jw_nn (by omega) (by omega)) (jS0_r2 (by omega) (by omega)) ?_
  refine jT_eq (LN := [(7, (0, 2)), (6, (0, 0)), (5, (0, 0)), (4, (0, 0)), (0, (4, 0)), (1, (0, y4)), (2, (0, t)), (3, (4, 1))]) (stN := [(0, 0), (0, 0)]) (hsN := [jzS_251, (100, [], [k226_0, k226_1, k226_2, k226_3, k226_4, k226_5]), (100, [], jS0), jgh, jgh, jgh, jgh, jgh, jgh, jgh, jgh, jgh, jgh, jgh, jgh, jgh, jgh]) rfl rfl rfl ?_
  refine jT_xaload_n (v := (4, 1)) (pcN := 34) jIS_325_33 rfl rfl rfl ?_
  refine jT_xiload (v := (0, 2)) (pcN := 36) jIS_325_34 rfl rfl rfl ?_
  refine jT_iald (x := k226_2) (a := 1) (j := 2) (fs := []) (X := [k226_0, k226_1, k226_2, k226_3, k226_4, k226_5]) jIS_325_36 rfl rfl rfl rfl ?_
  refine jT_eq (LN := [(7, (0, 2)), (6, (0, 0)), (5, (0, 0)), (4, (0, 0)), (0, (4, 0)), (1, (0, y4)), (2, (0, t)), (3, (4, 1))]) (stN := [(0, k226_2), (0, 0), (0, 0)]) (hsN := [jzS_251, (100, [], [k226_0, k226_1, k226_2, k226_3, k226_4, k226_5]), (100, [], jS0), jgh, jgh, jgh, jgh, jgh, jgh, jgh, jgh, jgh, jgh, jgh, jgh, jgh, jgh]) rfl rfl rfl ?_
  refine jT_ximul (x := 0) (y := k226_2) (z := 0) (pcN := 38) jIS_325_37 rfl (by omega) rfl ?_
  refine jT_xiadd (x := 0) (y := 0) (z := 0) (pcN := 39) jIS_325_38 rfl (by decide) rfl ?_
  refine jT_xistore (v := (0, 0)) (LN := [(4, (0, 0)), (7, (0, 2)), (6, (0, 0)), (5, (0, 0)), (0, (4, 0)), (1, (0, y4)), (2, (0, t)), (3, (4, 1))]) (pcN := 41) jIS_325_39 rfl rfl rfl rfl ?_
  refine jT_xiload (v := (0, 0)) (pcN := 43) jIS_325_41 rfl rfl rfl ?_
  refine jT_xaload_n (v := (4, 0)) (pcN := 44) jIS_325_43 rfl rfl rfl ?_
  refine jT_xgetf (a := 0) (t := 1) (ci := 14) (fi := 1) (c := jzS_251) (v := (4, 2)) (pcN := 47) jIS_325_44 rfl rfl rfl rfl rfl rfl rfl ?_
  refine jT_xbipush (k := 7) (pcN := 49) jIS_325_47 (by decide) rfl ?_
  refine jT_xiload_n (v := (0, t)) (pcN := 50) jIS_325_49 rfl rfl rfl ?_
  refine jT_ximul (x := 7) (y := t) (z := 7 * t) (pcN := 51) jIS_325_50 rfl (rfl) rfl ?_
  refine jT_xiload (v := (0, 2)) (pcN := 53) jIS_325_51 rfl rfl rfl ?_
  refine jT_xiadd (x := 7 * t) (y := 2) (z := 7 * t + 2) (pcN := 54) jIS_325_53 rfl (by omega) rfl ?_
  refine jT_iald (x := 0) (a := 2) (j := (7 * t + 2).toNat) (fs := []) (X := jS0) (by rfl) (by rfl) (by rfl) (jw_nn (by omega) (by omega)) (jS0_r2 (by omega) (by omega)) ?_
  refine jT_eq (LN := [(4, (0, 0)), (7, (0, 2)), (6, (0, 0)), (5, (0, 0)), (0, (4, 0)), (1, (0, y4)), (2, (0, t)), (3, (4, 1))]) (stN := [(0, 0), (0, 0)]) (hsN := [jzS_251, (100, [], [k226_0, k226_1, k226_2, k226_3, k226_4, k226_5]), (100, [], jS0), jgh, jgh, jgh, jgh, jgh, jgh, jgh, jgh, jgh, jgh, jgh, jgh, jgh, jgh]) rfl rfl rfl ?_
  refine jT_xaload_n (v := (4, 1)) (pcN := 56) jIS_325_55 rfl rfl rfl ?_
  refine jT_xiload (v := (0, 2)) (pcN := 58) jIS_325_56 rfl rfl rfl ?_
  refine jT_iald (x := k226_2) (a := 1) (j := 2) (fs := []) (X := [k226_0, k226_1, k226_2, k226_3, k226_4, k226_5]) jIS_325_58 rfl rfl rfl rfl ?_
  refine jT_eq (LN := [(4, (0, 0)), (7, (0, 2)), (6, (0, 0)), (5, (0, 0)), (0, (4, 0)), (1, (0, y4)), (2, (0, t)), (3, (4, 1))]) (stN := [(0, k226_2), (0, 0), (0, 0)]) (hsN := [jzS_251, (100, [], [k226_0, k226_1, k226_2, k226_3, k226_4, k226_5]), (100, [], jS0), jgh, jgh, jgh, jgh, jgh, jgh, jgh, jgh, jgh, jgh, jgh, jgh, jgh, jgh]) rfl rfl rfl ?_
  refine jT_ximul (x := 0) (y := k226_2) (z := 0) (pcN := 60) jIS_325_59 rfl (by omega) rfl ?_
  refine jT_xiadd (x := 0) (y := 0) (z := 0) (pcN := 61) jIS_325_60 rfl (by decide) rfl ?_
  refine jT_xistore (v := (0, 0)) (LN := [(5, (0, 0)), (4, (0, 0)), (7, (0, 2)), (6, (0, 0)), (0, (4, 0)), (1, (0, y4)), (2, (0, t)), (3, (4, 1))]) (pcN := 63) jIS_325_61 rfl rfl rfl rfl ?_
  refine jT_xiload (v := (0, 0)) (pcN := 65) jIS_325_63 rfl rfl rfl ?_
  refine jT_xaload_n (v := (4, 0)) (pcN := 66) jIS_325_65 rfl rfl rfl ?_
  refine jT_xgetf (a := 0) (t := 1) (ci := 14) (fi := 1) (c := jzS_251) (v := (4, 2)) (pcN := 69) jIS_325_66 rfl rfl rfl rfl rfl rfl rfl ?_
  refine jT_xbipush (k := 7) (pcN := 71) jIS_325_69 (by decide) rfl ?_
  refine jT_xiload_n (v := (0, y4)) (pcN := 72) jIS_325_71 rfl rfl rfl ?_
  refine jT_ximul (x := 7) (y := y4) (z := 7 * y4) (pcN := 73) jIS_325_72 rfl (rfl) rfl ?_
  refine jT_xiload (v := (0, 2)) (pcN := 75) jIS_325_73 rfl rfl rfl ?_
  refine jT_xiadd (x := 7 * y4) (y := 2) (z := 7 * y4 + 2) (pcN := 76) jIS_325_75 rfl (by omega) rfl ?_
  refine jT_iald (x := 0) (a := 2) (j := (7 * y4 + 2).toNat) (fs := []) (X := jS0) (by rfl) (by rfl) (by rfl) (jw_nn (by omega) (by omega)) (jS0_r2 (by omega) (by omega)) ?_
  refine jT_eq (LN := [(5, (0, 0)), (4, (0, 0)), (7, (0, 2)), (6, (0, 0)), (0, (4, 0)), (1, (0, y4)), (2, (0, t)), (3, (4, 1))]) (stN := [(0, 0), (0, 0)]) (hsN := [jzS_251, (100, [], [k226_0, k226_1, k226_2, k226_3, k226_4, k226_5]), (100, [], jS0), jgh, jgh, jgh, jgh, jgh, jgh, jgh, jgh, jgh, jgh, jgh, jgh, jgh, jgh]) rfl rfl rfl ?_
  refine jT_xaload_n (v := (4, 0)) (pcN := 78) jIS_325_77 rfl rfl rfl ?_
  refine jT_xgetf (a := 0) (t := 1) (ci := 14) (fi := 1) (c := jzS_251) (v := (4, 2)) (pcN := 81) jIS_325_78 rfl rfl rfl rfl rfl rfl rfl ?_
  refine jT_xbipush (k := 7) (pcN := 83) jIS_325_81 (by decide) rfl ?_
  refine jT_xiload_n (v := (0, t)) (pcN := 84) jIS_325_83 rfl rfl rfl ?_
  refine jT_ximul (x := 7) (y := t) (z := 7 * t) (pcN := 85) jIS_325_84 rfl (rfl) rfl ?_
  refine jT_xiload (v := (0, 2)) (pcN := 87) jIS_325_85 rfl rfl rfl ?_
  refine jT_xiadd (x := 7 * t) (y := 2) (z := 7 * t + 2) (pcN := 88) jIS_325_87 rfl (by omega) rfl ?_
  refine jT_iald (x := 0) (a := 2) (j := (7 * t + 2).toNat) (fs := []) (X := jS0) (by rfl) (by rfl) (by rfl) (jw_nn (by omega) (by omega)) (jS0_r2 (by omega) (by omega)) ?_
  refine jT_eq (LN := [(5, (0, 0)), (4, (0, 0)), (7, (0, 2)), (6, (0, 0)), (0, (4, 0)), (1, (0, y4)), (2, (0, t)), (3, (4, 1))]) (stN := [(0, 0), (0, 0), (0, 0)]) (hsN := [jzS_251, (100, [], [k226_0, k226_1, k226_2, k226_3, k226_4, k226_5]), (100, [], jS0), jgh, jgh, jgh, jgh, jgh, jgh, jgh, jgh, jgh, jgh, jgh, jgh, jgh, jgh]) rfl rfl rfl ?_
  refine jT_xiadd (x := 0) (y := 0) (z := 0) (pcN := 90) jIS_325_89 rfl (by decide) rfl ?_
  refine jT_xaload_n (v := (4, 1)) (pcN := 91) jIS_325_90 rfl rfl rfl ?_
  refine jT_xiload (v := (0, 2)) (pcN := 93) jIS_325_91 rfl rfl rfl ?_
  refine jT_iald (x := k226_2) (a := 1) (j := 2) (fs := []) (X := [k226_0, k226_1, k226_2, k226_3, k226_4, k226_5]) jIS_325_93 rfl rfl rfl rfl ?_
  refine jT_eq (LN := [(5, (0, 0)), (4, (0, 0)), (7, (0, 2)), (6, (0, 0)), (0, (4, 0)), (1, (0, y4)), (2, (0, t)), (3, (4, 1))]) (stN := [(0, k226_2), (0, 0), (0, 0)]) (hsN := [jzS_251, (100, [], [k226_0, k226_1, k226_2, k226_3, k226_4, k226_5]), (100, [], jS0), jgh, jgh, jgh, jgh, jgh, jgh, jgh, jgh, jgh, jgh, jgh, jgh, jgh, jgh]) rfl rfl rfl ?_
  refine jT_ximul (x := 0) (y := k226_2) (z := 0) (pcN := 95) jIS_325_94 rfl (by omega) rfl ?_
  refine jT_xiadd (x := 0) (y := 0) (z := 0) (pcN := 96) jIS_325_95 rfl (by decide) rfl ?_
  refine jT_xistore (v := (0, 0)) (LN := [(6, (0, 0)), (5, (0, 0)), (4, (0, 0)), (7, (0, 2)), (0, (4, 0)), (1, (0, y4)), (2, (0, t)), (3, (4, 1))]) (pcN := 98) jIS_325_96 rfl rfl rfl rfl ?_
  refine jT_xiinc (x := 2) (z := 3) (LN := [(7, (0, 3)), (6, (0, 0)), (5, (0, 0)), (4, (0, 0)), (0, (4, 0)), (1, (0, y4)), (2, (0, t)), (3, (4, 1))]) (pcN := 101) jIS_325_98 rfl rfl (by decide) rfl rfl ?_
  refine jT_xgoto (pcN := 12) jIS_325_101 rfl ?_
  refine jT_xiload (v := (0, 3)) (pcN := 14) jIS_325_12 rfl rfl rfl ?_
  refine jT_xbipush (k := 6) (pcN := 16) jIS_325_14 (by decide) rfl ?_
  refine jT_xicF (t := 104) (pcN := 19) jIS_325_16 rfl (by decide +kernel) rfl rfl ?_
  refine jT_xiload (v := (0, 0)) (pcN := 21) jIS_325_19 rfl rfl rfl ?_
  refine jT_xaload_n (v := (4, 0)) (pcN := 22) jIS_325_21 rfl rfl rfl ?_
  refine jT_xgetf (a := 0) (t := 1) (ci := 14) (fi := 1) (c := jzS_251) (v := (4, 2)) (pcN := 25) jIS_325_22 rfl rfl rfl rfl rfl rfl rfl ?_
  refine jT_xbipush (k := 7) (pcN := 27) jIS_325_25 (by decide) rfl ?_
  refine jT_xiload_n (v := (0, y4)) (pcN := 28) jIS_325_27 rfl rfl rfl ?_
  refine jT_ximul (x := 7) (y := y4) (z := 7 * y4) (pcN := 29) jIS_325_28 rfl (rfl) rfl ?_
  refine jT_xiload (v := (0, 3)) (pcN := 31) jIS_325_29 rfl rfl rfl ?_
  refine jT_xiadd (x := 7 * y4) (y := 3) (z := 7 * y4 + 3) (pcN := 32) jIS_325_31 rfl (by omega) rfl ?_
  refine jT_iald (x := 0) (a := 2) (j := (7 * y4 + 3).toNat) (fs := []) (X := jS0) (by rfl) (by rfl) (by rfl) (jw_nn (by omega) (by omega)) (jS0_r3 (by omega) (by omega)) ?_
  refine jT_eq (LN := [(7, (0, 3)), (6, (0, 0)), (5, (0, 0)), (4, (0, 0)), (0, (4, 0)), (1, (0, y4)), (2, (0, t)), (3, (4, 1))]) (stN := [(0, 0), (0, 0)]) (hsN := [jzS_251, (100, [], [k226_0, k226_1, k226_2, k226_3, k226_4, k226_5]), (100, [], jS0), jgh, jgh, jgh, jgh, jgh, jgh, jgh, jgh, jgh, jgh, jgh, jgh, jgh, jgh]) rfl rfl rfl ?_
  refine jT_xaload_n (v := (4, 1)) (pcN := 34) jIS_325_33 rfl rfl rfl ?_
  refine jT_xiload (v := (0, 3)) (pcN := 36) jIS_325_34 rfl rfl rfl ?_
  refine jT_iald (x := k226_3) (a := 1) (j := 3) (fs := []) (X := [k226_0, k226_1, k226_2, k226_3, k226_4, k226_5]) jIS_325_36 rfl rfl rfl rfl ?_
  refine jT_eq (LN := [(7, (0, 3)), (6, (0, 0)), (5, (0, 0)), (4, (0, 0)), (0, (4, 0)), (1, (0, y4)), (2, (0, t)), (3, (4, 1))]) (stN := [(0, k226_3), (0, 0), (0, 0)]) (hsN := [jzS_251, (100, [], [k226_0, k226_1, k226_2, k226_3, k226_4, k226_5]), (100, [], jS0), jgh, jgh, jgh, jgh, jgh, jgh, jgh, jgh, jgh, jgh, jgh, jgh, jgh, jgh]) rfl rfl rfl ?_
  refine jT_ximul (x := 0) (y := k226_3) (z := 0) (pcN := 38) jIS_325_37 rfl (by omega) rfl ?_
  refine jT_xiadd (x := 0) (y := 0) (z := 0) (pcN := 39) jIS_325_38 rfl (by decide) rfl ?_
  refine jT_xistore (v := (0, 0)) (LN := [(4, (0, 0)), (7, (0, 3)), (6, (0, 0)), (5, (0, 0)), (0, (4, 0)), (1, (0, y4)), (2, (0, t)), (3, (4, 1))]) (pcN := 41) jIS_325_39 rfl rfl rfl rfl ?_
  refine jT_xiload (v := (0, 0)) (pcN := 43) jIS_325_41 rfl rfl rfl ?_
  refine jT_xaload_n (v := (4, 0)) (pcN := 44) jIS_325_43 rfl rfl rfl ?_
  refine jT_xgetf (a := 0) (t := 1) (ci := 14) (fi := 1) (c := jzS_251) (v := (4, 2)) (pcN := 47) jIS_325_44 rfl rfl rfl rfl rfl rfl rfl ?_
  refine jT_xbipush (k := 7) (pcN := 49) jIS_325_47 (by decide) rfl ?_
  refine jT_xiload_n (v := (0, t)) (pcN := 50) jIS_325_49 rfl rfl rfl ?_
  refine jT_ximul (x := 7) (y := t) (z := 7 * t) (pcN := 51) jIS_325_50 rfl (rfl) rfl ?_
  refine jT_xiload (v := (0, 3)) (pcN := 53) jIS_325_51 rfl rfl rfl ?_
  refine jT_xiadd (x := 7 * t) (y := 3) (z := 7 * t + 3) (pcN := 54) jIS_325_53 rfl (by omega) rfl ?_
  refine jT_iald (x := 0) (a := 2) (j := (7 * t + 3).toNat) (fs := []) (X := jS0) (by rfl) (by rfl) (by rfl) (jw_nn (by omega) (by omega)) (jS0_r3 (by omega) (by omega)) ?_
  refine jT_eq (LN := [(4, (0, 0)), (7, (0, 3)), (6, (0, 0)), (5, (0, 0)), (0, (4, 0)), (1, (0, y4)), (2, (0, t)), (3, (4, 1))]) (stN := [(0, 0), (0, 0)]) (hsN := [jzS_251, (100, [], [k226_0, k226_1, k226_2, k226_3, k226_4, k226_5]), (100, [], jS0), jgh, jgh, jgh, jgh, jgh, jgh, jgh, jgh, jgh, jgh, jgh, jgh, jgh, jgh]) rfl rfl rfl ?_
  refine jT_xaload_n (v := (4, 1)) (pcN := 56) jIS_325_55 rfl rfl rfl ?_
  refine jT_xiload (v := (0, 3)) (pcN := 58) jIS_325_56 rfl rfl rfl ?_
  refine jT_iald (x := k226_3) (a := 1) (j := 3) (fs := []) (X := [k226_0, k226_1, k226_2, k226_3, k226_4, k226_5]) jIS_325_58 rfl rfl rfl rfl ?_
  refine jT_eq (LN := [(4, (0, 0)), (7, (0, 3)), (6, (0, 0)), (5, (0, 0)), (0, (4, 0)), (1, (0, y4)), (2, (0, t)), (3, (4, 1))]) (stN := [(0, k226_3), (0, 0), (0, 0)]) (hsN := [jzS_251, (100, [], [k226_0, k226_1, k226_2, k226_3, k226_4, k226_5]), (100, [], jS0), jgh, jgh, jgh, jgh, jgh, jgh, jgh, jgh, jgh, jgh, jgh, jgh, jgh, jgh]) rfl rfl rfl ?_
  refine jT_ximul (x := 0) (y := k226_3) (z := 0) (pcN := 60) jIS_325_59 rfl (by omega) rfl ?_
  refine jT_xiadd (x := 0) (y := 0) (z := 0) (pcN := 61) jIS_325_60 rfl (by decide) rfl ?_
  refine jT_xistore (v := (0, 0)) (LN := [(5, (0, 0)), (4, (0, 0)), (7, (0, 3)), (6, (0, 0)), (0, (4, 0)), (1, (0, y4)), (2, (0, t)), (3, (4, 1))]) (pcN := 63) jIS_325_61 rfl rfl rfl rfl ?_
  refine jT_xiload (v := (0, 0)) (pcN := 65) jIS_325_63 rfl rfl rfl ?_
  refine jT_xaload_n (v := (4, 0)) (pcN := 66) jIS_325_65 rfl rfl rfl ?_
  refine jT_xgetf (a := 0) (t := 1) (ci := 14) (fi := 1) (c := jzS_251) (v := (4, 2)) (pcN := 69) jIS_325_66 rfl rfl rfl rfl rfl rfl rfl ?_
  refine jT_xbipush (k := 7) (pcN := 71) jIS_325_69 (by decide) rfl ?_
  refine jT_xiload_n (v := (0, y4)) (pcN := 72) jIS_325_71 rfl rfl rfl ?_
  refine jT_ximul (x := 7) (y := y4) (z := 7 * y4) (pcN := 73) jIS_325_72 rfl (rfl) rfl ?_
  refine jT_xiload (v := (0, 3)) (pcN := 75) jIS_325_73 rfl rfl rfl ?_
  refine jT_xiadd (x := 7 * y4) (y := 3) (z := 7 * y4 + 3) (pcN := 76) jIS_325_75 rfl (by omega) rfl ?_
  refine jT_iald (x := 0) (a := 2) (j := (7 * y4 + 3).toNat) (fs := []) (X := jS0) (by rfl) (by rfl) (by rfl) (jw_nn (by omega) (by omega)) (jS0_r3 (by omega) (by omega)) ?_
  refine jT_eq (LN := [(5, (0, 0)), (4, (0, 0)), (7, (0, 3)), (6, (0, 0)), (0, (4, 0)), (1, (0, y4)), (2, (0, t)), (3, (4, 1))]) (stN := [(0, 0), (0, 0)]) (hsN := [jzS_251, (100, [], [k226_0, k226_1, k226_2, k226_3, k226_4, k226_5]), (100, [], jS0), jgh, jgh, jgh, jgh, jgh, jgh, jgh, jgh, jgh, jgh, jgh, jgh, jgh, jgh]) rfl rfl rfl ?_
  refine jT_xaload_n (v := (4, 0)) (pcN := 78) jIS_325_77 rfl rfl rfl ?_
  refine jT_xgetf (a := 0) (t := 1) (ci := 14) (fi := 1) (c := jzS_251) (v := (4, 2)) (pcN := 81) jIS_325_78 rfl rfl rfl rfl rfl rfl rfl ?_
  refine jT_xbipush (k := 7) (pcN := 83) jIS_325_81 (by decide) rfl ?_
  refine jT_xiload_n (v := (0, t)) (pcN := 84) jIS_325_83 rfl rfl rfl ?_
  refine jT_ximul (x := 7) (y := t) (z := 7 * t) (pcN := 85) jIS_325_84 rfl (rfl) rfl ?_
  refine jT_xiload (v := (0, 3)) (pcN := 87) jIS_325_85 rfl rfl rfl ?_
  refine jT_xiadd (x := 7 * t) (y := 3) (z := 7 * t + 3) (pcN := 88) jIS_325_87 rfl (by omega) rfl ?_
  refine jT_iald (x := 0) (a := 2) (j := (7 * t + 3).toNat) (fs := []) (X := jS0) (by rfl) (by rfl) (by rfl) (jw_nn (by omega) (by omega)) (jS0_r3 (by omega) (by omega)) ?_
  refine jT_eq (LN := [(5, (0, 0)), (4, (0, 0)), (7, (0, 3)), (6, (0, 0)), (0, (4, 0)), (1, (0, y4)), (2, (0, t)), (3, (4, 1))]) (stN := [(0, 0), (0, 0), (0, 0)]) (hsN := [jzS_251, (100, [], [k226_0, k226_1, k226_2, k226_3, k226_4, k226_5]), (100, [], jS0), jgh, jgh, jgh, jgh, jgh, jgh, jgh, jgh, jgh, jgh, jgh, jgh, jgh, jgh]) rfl rfl rfl ?_
  refine jT_xiadd (x := 0) (y := 0) (z := 0) (pcN := 90) jIS_325_89 rfl (by decide) rfl ?_
  refine jT_xaload_n (v := (4, 1)) (pcN := 91) jIS_325_90 rfl rfl rfl ?_
  refine jT_xiload (v := (0, 3)) (pcN := 93) jIS_325_91 rfl rfl rfl ?_
  refine jT_iald (x := k226_3) (a := 1) (j := 3) (fs := []) (X := [k226_0, k226_1, k226_2, k226_3, k226_4, k226_5]) jIS_325_93 rfl rfl rfl rfl ?_
  refine jT_eq (LN := [(5, (0, 0)), (4, (0, 0)), (7, (0, 3)), (6, (0, 0)), (0, (4, 0)), (1, (0, y4)), (2, (0, t)), (3, (4, 1))]) (stN := [(0, k226_3), (0, 0), (0, 0)]) (hsN := [jzS_251, (100, [], [k226_0, k226_1, k226_2, k226_3, k226_4, k226_5]), (100, [], jS0), jgh, jgh, jgh, jgh, jgh, jgh, jgh, jgh, jgh, jgh, jgh, jgh, jgh, jgh]) rfl rfl rfl ?_
  refine jT_ximul (x := 0) (y := k226_3) (z := 0) (pcN := 95) jIS_325_94 rfl (by omega) rfl ?_
  refine jT_xiadd (x := 0) (y := 0) (z := 0) (pcN := 96) jIS_325_95 rfl (by decide) rfl ?_
  refine jT_xistore (v := (0, 0)) (LN := [(6, (0, 0)), (5, (0, 0)), (4, (0, 0)), (7, (0, 3)), (0, (4, 0)), (1, (0, y4)), (2, (0, t)), (3, (4, 1))]) (pcN := 98) jIS_325_96 rfl rfl rfl rfl ?_
  refine jT_xiinc (x := 3) (z := 4) (LN := [(7, (0, 4)), (6, (0, 0)), (5, (0, 0)), (4, (0, 0)), (0, (4, 0)), (1, (0, y4)), (2, (0, t)), (3, (4, 1))]) (pcN := 101) jIS_325_98 rfl rfl (by decide) rfl rfl ?_
  refine jT_xgoto (pcN := 12) jIS_325_101 rfl ?_
  refine jT_xiload (v := (0, 4)) (pcN := 14) jIS_325_12 rfl rfl rfl ?_
  refine jT_xbipush (k := 6) (pcN := 16) jIS_325_14 (by decide) rfl ?_
  refine jT_xicF (t := 104) (pcN := 19) jIS_325_16 rfl (by decide +kernel) rfl rfl ?_
  refine jT_xiload (v := (0, 0)) (pcN := 21) jIS_325_19 rfl rfl rfl ?_
  refine jT_xaload_n (v := (4, 0)) (pcN := 22) jIS_325_21 rfl rfl rfl ?_
  refine jT_xgetf (a := 0) (t := 1) (ci := 14) (fi := 1) (c := jzS_251) (v := (4, 2)) (pcN := 25) jIS_325_22 rfl rfl rfl rfl rfl rfl rfl ?_
  refine jT_xbipush (k := 7) (pcN := 27) jIS_325_25 (by decide) rfl ?_
  refine jT_xiload_n (v := (0, y4)) (pcN := 28) jIS_325_27 rfl rfl rfl ?_
  refine jT_ximul (x := 7) (y := y4) (z := 7 * y4) (pcN := 29) jIS_325_28 rfl (rfl) rfl ?_
  refine jT_xiload (v := (0, 4)) (pcN := 31) jIS_325_29 rfl rfl rfl ?_
  refine jT_xiadd (x := 7 * y4) (y := 4) (z := 7 * y4 + 4) (pcN := 32) jIS_325_31 rfl (by omega) rfl ?_
  refine jT_iald (x := 0) (a := 2) (j := (7 * y4 + 4).toNat) (fs := []) (X := jS0) (by rfl) (by rfl) (by rfl) (jw_nn (by omega) (by omega)) (jS0_r4 (by omega) (by omega)) ?_
  refine jT_eq (LN := [(7, (0, 4)), (6, (0, 0)), (5, (0, 0)), (4, (0, 0)), (0, (4, 0)), (1, (0, y4)), (2, (0, t)), (3, (4, 1))]) (stN := [(0, 0), (0, 0)]) (hsN := [jzS_251, (100, [], [k226_0, k226_1, k226_2, k226_3, k226_4, k226_5]), (100, [], jS0), jgh, jgh, jgh, jgh, jgh, jgh, jgh, jgh, jgh, jgh, jgh, jgh, jgh, jgh]) rfl rfl rfl ?_
  refine jT_xaload_n (v := (4, 1)) (pcN := 34) jIS_325_33 rfl rfl rfl ?_
  refine jT_xiload (v := (0, 4)) (pcN := 36) jIS_325_34 rfl rfl rfl ?_
  refine jT_iald (x := k226_4) (a := 1) (j := 4) (fs := []) (X := [k226_0, k226_1, k226_2, k226_3, k226_4, k226_5]) jIS_325_36 rfl rfl rfl rfl ?_
  refine jT_eq (LN := [(7, (0, 4)), (6, (0, 0)), (5, (0, 0)), (4, (0, 0)), (0, (4, 0)), (1, (0, y4)), (2, (0, t)), (3, (4, 1))]) (stN := [(0, k226_4), (0, 0), (0, 0)]) (hsN := [jzS_251, (100, [], [k226_0, k226_1, k226_2, k226_3, k226_4, k226_5]), (100, [], jS0), jgh, jgh, jgh, jgh, jgh, jgh, jgh, jgh, jgh, jgh, jgh, jgh, jgh, jgh]) rfl rfl rfl ?_
  refine jT_ximul (x := 0) (y := k226_4) (z := 0) (pcN := 38) jIS_325_37 rfl (by omega) rfl ?_
  refine jT_xiadd (x := 0) (y := 0) (z := 0) (pcN := 39) jIS_325_38 rfl (by decide) rfl ?_
  refine jT_xistore (v := (0, 0)) (LN := [(4, (0, 0)), (7, (0, 4)), (6, (0, 0)), (5, (0, 0)), (0, (4, 0)), (1, (0, y4)), (2, (0, t)), (3, (4, 1))]) (pcN := 41) jIS_325_39 rfl rfl rfl rfl ?_
  refine jT_xiload (v := (0, 0)) (pcN := 43) jIS_325_41 rfl rfl rfl ?_
  refine jT_xaload_n (v := (4, 0)) (pcN := 44) jIS_325_43 rfl rfl rfl ?_
  refine jT_xgetf (a := 0) (t := 1) (ci := 14) (fi := 1) (c := jzS_251) (v := (4, 2)) (pcN := 47) jIS_325_44 rfl rfl rfl rfl rfl rfl rfl ?_
  refine jT_xbipush (k := 7) (pcN := 49) jIS_325_47 (by decide) rfl ?_
  refine jT_xiload_n (v := (0, t)) (pcN := 50) jIS_325_49 rfl rfl rfl ?_
  refine jT_ximul (x := 7) (y := t) (z := 7 * t) (pcN := 51) jIS_325_50 rfl (rfl) rfl ?_
  refine jT_xiload (v := (0, 4)) (pcN := 53) jIS_325_51 rfl rfl rfl ?_
  refine jT_xiadd (x := 7 * t) (y := 4) (z := 7 * t + 4) (pcN := 54) jIS_325_53 rfl (by omega) rfl ?_
  refine jT_iald (x := 0) (a := 2) (j := (7 * t + 4).toNat) (fs := []) (X := jS0) (by rfl) (by rfl) (by rfl) (jw_nn (by omega) (by omega)) (jS0_r4 (by omega) (by omega)) ?_
  refine jT_eq (LN := [(4, (0, 0)), (7, (0, 4)), (6, (0, 0)), (5, (0, 0)), (0, (4, 0)), (1, (0, y4)), (2, (0, t)), (3, (4, 1))]) (stN := [(0, 0), (0, 0)]) (hsN := [jzS_251, (100, [], [k226_0, k226_1, k226_2, k226_3, k226_4, k226_5]), (100, [], jS0), jgh, jgh, jgh, jgh, jgh, jgh, jgh, jgh, jgh, jgh, jgh, jgh, jgh, jgh]) rfl rfl rfl ?_
  refine jT_xaload_n (v := (4, 1)) (pcN := 56) jIS_325_55 rfl rfl rfl ?_
  refine jT_xiload (v := (0, 4)) (pcN := 58) jIS_325_56 rfl rfl rfl ?_
  refine jT_iald (x := k226_4) (a := 1) (j := 4) (fs := []) (X := [k226_0, k226_1, k226_2, k226_3, k226_4, k226_5]) jIS_325_58 rfl rfl rfl rfl ?_
  refine jT_eq (LN := [(4, (0, 0)), (7, (0, 4)), (6, (0, 0)), (5, (0, 0)), (0, (4, 0)), (1, (0, y4)), (2, (0, t)), (3, (4, 1))]) (stN := [(0, k226_4), (0, 0), (0, 0)]) (hsN := [jzS_251, (100, [], [k226_0, k226_1, k226_2, k226_3, k226_4, k226_5]), (100, [], jS0), jgh, jgh, jgh, jgh, jgh, jgh, jgh, jgh, jgh, jgh, jgh, jgh, jgh, jgh]) rfl rfl rfl ?_
  refine jT_ximul (x := 0) (y := k226_4) (z := 0) (pcN := 60) jIS_325_59 rfl (by omega) rfl ?_
  refine jT_xiadd (x := 0) (y := 0) (z := 0) (pcN := 61) jIS_325_60 rfl (by decide) rfl ?_
  refine jT_xistore (v := (0, 0)) (LN := [(5, (0, 0)), (4, (0, 0)), (7, (0, 4)), (6, (0, 0)), (0, (4, 0)), (1, (0, y4)), (2, (0, t)), (3, (4, 1))]) (pcN := 63) jIS_325_61 rfl rfl rfl rfl ?_
  refine jT_xiload (v := (0, 0)) (pcN := 65) jIS_325_63 rfl rfl rfl ?_
  refine jT_xaload_n (v := (4, 0)) (pcN := 66) jIS_325_65 rfl rfl rfl ?_
  refine jT_xgetf (a := 0) (t := 1) (ci := 14) (fi := 1) (c := jzS_251) (v := (4, 2)) (pcN := 69) jIS_325_66 rfl rfl rfl rfl rfl rfl rfl ?_
  refine jT_xbipush (k := 7) (pcN := 71) jIS_325_69 (by decide) rfl ?_
  refine jT_xiload_n (v := (0, y4)) (pcN := 72) jIS_325_71 rfl rfl rfl ?_
  refine jT_ximul (x := 7) (y := y4) (z := 7 * y4) (pcN := 73) jIS_325_72 rfl (rfl) rfl ?_
  refine jT_xiload (v := (0, 4)) (pcN := 75) jIS_325_73 rfl rfl rfl ?_
  refine jT_xiadd (x := 7 * y4) (y := 4) (z := 7 * y4 + 4) (pcN := 76) jIS_325_75 rfl (by omega) rfl ?_
  refine jT_iald (x := 0) (a := 2) (j := (7 * y4 + 4).toNat) (fs := []) (X := jS0) (by rfl) (by rfl) (by rfl) (jw_nn (by omega) (by omega)) (jS0_r4 (by omega) (by omega)) ?_
  refine jT_eq (LN := [(5, (0, 0)), (4, (0, 0)), (7, (0, 4)), (6, (0, 0)), (0, (4, 0)), (1, (0, y4)), (2, (0, t)), (3, (4, 1))]) (stN := [(0, 0), (0, 0)]) (hsN := [jzS_251, (100, [], [k226_0, k226_1, k226_2, k226_3, k226_4, k226_5]), (100, [], jS0), jgh, jgh, jgh, jgh, jgh, jgh, jgh, jgh, jgh, jgh, jgh, jgh, jgh, jgh]) rfl rfl rfl ?_
  refine jT_xaload_n (v := (4, 0)) (pcN := 78) jIS_325_77 rfl rfl rfl ?_
  refine jT_xgetf (a := 0) (t := 1) (ci := 14) (fi := 1) (c := jzS_251) (v := (4, 2)) (pcN := 81) jIS_325_78 rfl rfl rfl rfl rfl rfl rfl ?_
  refine jT_xbipush (k := 7) (pcN := 83) jIS_325_81 (by decide) rfl ?_
  refine jT_xiload_n (v := (0, t)) (pcN := 84) jIS_325_83 rfl rfl rfl ?_
  refine jT_ximul (x := 7) (y := t) (z := 7 * t) (pcN := 85) jIS_325_84 rfl (rfl) rfl ?_
  refine jT_xiload (v := (0, 4)) (pcN := 87) jIS_325_85 rfl rfl rfl ?_
  refine jT_xiadd (x := 7 * t) (y := 4) (z := 7 * t + 4) (pcN := 88) jIS_325_87 rfl (by omega) rfl ?_
  refine jT_iald (x := 0) (a := 2) (j := (7 * t + 4).toNat) (fs := []) (X := jS0) (by rfl) (by rfl) (by rfl) (jw_nn (by omega) (by omega)) (jS0_r4 (by omega) (by omega)) ?_
  refine jT_eq (LN := [(5, (0, 0)), (4, (0, 0)), (7, (0, 4)), (6, (0, 0)), (0, (4, 0)), (1, (0, y4)), (2, (0, t)), (3, (4, 1))]) (stN := [(0, 0), (0, 0), (0, 0)]) (hsN := [jzS_251, (100, [], [k226_0, k226_1, k226_2, k226_3, k226_4, k226_5]), (100, [], jS0), jgh, jgh, jgh, jgh, jgh, jgh, jgh, jgh, jgh, jgh, jgh, jgh, jgh, jgh]) rfl rfl rfl ?_
  refine jT_xiadd (x := 0) (y := 0) (z := 0) (pcN := 90) jIS_325_89 rfl (by decide) rfl ?_
  refine jT_xaload_n (v := (4, 1)) (pcN := 91) jIS_325_90 rfl rfl rfl ?_
  refine jT_xiload (v := (0, 4)) (pcN := 93) jIS_325_91 rfl rfl rfl ?_
  refine jT_iald (x := k226_4) (a := 1) (j := 4) (fs := []) (X := [k226_0, k226_1, k226_2, k226_3, k226_4, k226_5]) jIS_325_93 rfl rfl rfl rfl ?_
  refine jT_eq (LN := [(5, (0, 0)), (4, (0, 0)), (7, (0, 4)), (6, (0, 0)), (0, (4, 0)), (1, (0, y4)), (2, (0, t)), (3, (4, 1))]) (stN := [(0, k226_4), (0, 0), (0, 0)]) (hsN := [jzS_251, (100, [], [k226_0, k226_1, k226_2, k226_3, k226_4, k226_5]), (100, [], jS0), jgh, jgh, jgh, jgh, jgh, jgh, jgh, jgh, jgh, jgh, jgh, jgh, jgh, jgh]) rfl rfl rfl ?_
  refine jT_ximul (x := 0) (y := k226_4) (z := 0) (pcN := 95) jIS_325_94 rfl (by omega) rfl ?_
  refine jT_xiadd (x := 0) (y := 0) (z := 0) (pcN := 96) jIS_325_95 rfl (by decide) rfl ?_
  refine jT_xistore (v := (0, 0)) (LN := [(6, (0, 0)), (5, (0, 0)), (4, (0, 0)), (7, (0, 4)), (0, (4, 0)), (1, (0, y4)), (2, (0, t)), (3, (4, 1))]) (pcN := 98) jIS_325_96 rfl rfl rfl rfl ?_
  refine jT_xiinc (x := 4) (z := 5) (LN := [(7, (0, 5)), (6, (0, 0)), (5, (0, 0)), (4, (0, 0)), (0, (4, 0)), (1, (0, y4)), (2, (0, t)), (3, (4, 1))]) (pcN := 101) jIS_325_98 rfl rfl (by decide) rfl rfl ?_
  refine jT_xgoto (pcN := 12) jIS_325_101 rfl ?_
  refine jT_xiload (v := (0, 5)) (pcN := 14) jIS_325_12 rfl rfl rfl ?_
  refine jT_xbipush (k := 6) (pcN := 16) jIS_325_14 (by decide) rfl ?_
  refine jT_xicF (t := 104) (pcN := 19) jIS_325_16 rfl (by decide +kernel) rfl rfl ?_
  refine jT_xiload (v := (0, 0)) (pcN := 21) jIS_325_19 rfl rfl rfl ?_
  refine jT_xaload_n (v := (4, 0)) (pcN := 22) jIS_325_21 rfl rfl rfl ?_
  refine jT_xgetf (a := 0) (t := 1) (ci := 14) (fi := 1) (c := jzS_251) (v := (4, 2)) (pcN := 25) jIS_325_22 rfl rfl rfl rfl rfl rfl rfl ?_
  refine jT_xbipush (k := 7) (pcN := 27) jIS_325_25 (by decide) rfl ?_
  refine jT_xiload_n (v := (0, y4)) (pcN := 28) jIS_325_27 rfl rfl rfl ?_
  refine jT_ximul (x := 7) (y := y4) (z := 7 * y4) (pcN := 29) jIS_325_28 rfl (rfl) rfl ?_
  refine jT_xiload (v := (0, 5)) (pcN := 31) jIS_325_29 rfl rfl rfl ?_
  refine jT_xiadd (x := 7 * y4) (y := 5) (z := 7 * y4 + 5) (pcN := 32) jIS_325_31 rfl (by omega) rfl ?_
  refine jT_iald (x := 0) (a := 2) (j := (7 * y4 + 5).toNat) (fs := []) (X := jS0) (by rfl) (by rfl) (by rfl) (jw_nn (by omega) (by omega)) (jS0_r5 (by omega) (by omega)) ?_
  refine jT_eq (LN := [(7, (0, 5)), (6, (0, 0)), (5, (0, 0)), (4, (0, 0)), (0, (4, 0)), (1, (0, y4)), (2, (0, t)), (3, (4, 1))]) (stN := [(0, 0), (0, 0)]) (hsN := [jzS_251, (100, [], [k226_0, k226_1, k226_2, k226_3, k226_4, k226_5]), (100, [], jS0), jgh, jgh, jgh, jgh, jgh, jgh, jgh, jgh, jgh, jgh, jgh, jgh, jgh, jgh]) rfl rfl rfl ?_
  refine jT_xaload_n (v := (4, 1)) (pcN := 34) jIS_325_33 rfl rfl rfl ?_
  refine jT_xiload (v := (0, 5)) (pcN := 36) jIS_325_34 rfl rfl rfl ?_
  refine jT_iald (x := k226_5) (a := 1) (j := 5) (fs := []) (X := [k226_0, k226_1, k226_2, k226_3, k226_4, k226_5]) jIS_325_36 rfl rfl rfl rfl ?_
  refine jT_eq (LN := [(7, (0, 5)), (6, (0, 0)), (5, (0, 0)), (4, (0, 0)), (0, (4, 0)), (1, (0, y4)), (2, (0, t)), (3, (4, 1))]) (stN := [(0, k226_5), (0, 0), (0, 0)]) (hsN := [jzS_251, (100, [], [k226_0, k226_1, k226_2, k226_3, k226_4, k226_5]), (100, [], jS0), jgh, jgh, jgh, jgh, jgh, jgh, jgh, jgh, jgh, jgh, jgh, jgh, jgh, jgh]) rfl rfl rfl ?_
  refine jT_ximul (x := 0) (y := k226_5) (z := 0) (pcN := 38) jIS_325_37 rfl (by omega) rfl ?_
  refine jT_xiadd (x := 0) (y := 0) (z := 0) (pcN := 39) jIS_325_38 rfl (by decide) rfl ?_
  refine jT_xistore (v := (0, 0)) (LN := [(4, (0, 0)), (7, (0, 5)), (6, (0, 0)), (5, (0, 0)), (0, (4, 0)), (1, (0, y4)), (2, (0, t)), (3, (4, 1))]) (pcN := 41) jIS_325_39 rfl rfl rfl rfl ?_
  refine jT_xiload (v := (0, 0)) (pcN := 43) jIS_325_41 rfl rfl rfl ?_
  refine jT_xaload_n (v := (4, 0)) (pcN := 44) jIS_325_43 rfl rfl rfl ?_
  refine jT_xgetf (a := 0) (t := 1) (ci := 14) (fi := 1) (c := jzS_251) (v := (4, 2)) (pcN := 47) jIS_325_44 rfl rfl rfl rfl rfl rfl rfl ?_
  refine jT_xbipush (k := 7) (pcN := 49) jIS_325_47 (by decide) rfl ?_
  refine jT_xiload_n (v := (0, t)) (pcN := 50) jIS_325_49 rfl rfl rfl ?_
  refine jT_ximul (x := 7) (y := t) (z := 7 * t) (pcN := 51) jIS_325_50 rfl (rfl) rfl ?_
  refine jT_xiload (v := (0, 5)) (pcN := 53) jIS_325_51 rfl rfl rfl ?_
  refine jT_xiadd (x := 7 * t) (y := 5) (z := 7 * t + 5) (pcN := 54) jIS_325_53 rfl (by omega) rfl ?_
  refine jT_iald (x := 0) (a := 2) (j := (7 * t + 5).toNat) (fs := []) (X := jS0) (by rfl) (by rfl) (by rfl) (jw_nn (by omega) (by omega)) (jS0_r5 (by omega) (by omega)) ?_
  refine jT_eq (LN := [(4, (0, 0)), (7, (0, 5)), (6, (0, 0)), (5, (0, 0)), (0, (4, 0)), (1, (0, y4)), (2, (0, t)), (3, (4, 1))]) (stN := [(0, 0), (0, 0)]) (hsN := [jzS_251, (100, [], [k226_0, k226_1, k226_2, k226_3, k226_4, k226_5]), (100, [], jS0), jgh, jgh, jgh, jgh, jgh, jgh, jgh, jgh, jgh, jgh, jgh, jgh, jgh, jgh]) rfl rfl rfl ?_
  refine jT_xaload_n (v := (4, 1)) (pcN := 56) jIS_325_55 rfl rfl rfl ?_
  refine jT_xiload (v := (0, 5)) (pcN := 58) jIS_325_56 rfl rfl rfl ?_
  refine jT_iald (x := k226_5) (a := 1) (j := 5) (fs := []) (X := [k226_0, k226_1, k226_2, k226_3, k226_4, k226_5]) jIS_325_58 rfl rfl rfl rfl ?_
  refine jT_eq (LN := [(4, (0, 0)), (7, (0, 5)), (6, (0, 0)), (5, (0, 0)), (0, (4, 0)), (1, (0, y4)), (2, (0, t)), (3, (4, 1))]) (stN := [(0, k226_5), (0, 0), (0, 0)]) (hsN := [jzS_251, (100, [], [k226_0, k226_1, k226_2, k226_3, k226_4, k226_5]), (100, [], jS0), jgh, jgh, jgh, jgh, jgh, jgh, jgh, jgh, jgh, jgh, jgh, jgh, jgh, jgh]) rfl rfl rfl ?_
  refine jT_ximul (x := 0) (y := k226_5) (z := 0) (pcN := 60) jIS_325_59 rfl (by omega) rfl ?_
  refine jT_xiadd (x := 0) (y := 0) (z := 0) (pcN := 61) jIS_325_60 rfl (by decide) rfl ?_
  refine jT_xistore (v := (0, 0)) (LN := [(5, (0, 0)), (4, (0, 0)), (7, (0, 5)), (6, (0, 0)), (0, (4, 0)), (1, (0, y4)), (2, (0, t)), (3, (4, 1))]) (pcN := 63) jIS_325_61 rfl rfl rfl rfl ?_
  refine jT_xiload (v := (0, 0)) (pcN := 65) jIS_325_63 rfl rfl rfl ?_
  refine jT_xaload_n (v := (4, 0)) (pcN := 66) jIS_325_65 rfl rfl rfl ?_
  refine jT_xgetf (a := 0) (t := 1) (ci := 14) (fi := 1) (c := jzS_251) (v := (4, 2)) (pcN := 69) jIS_325_66 rfl rfl rfl rfl rfl rfl rfl ?_
  refine jT_xbipush (k := 7) (pcN := 71) jIS_325_69 (by decide) rfl ?_
  refine jT_xiload_n (v := (0, y4)) (pcN := 72) jIS_325_71 rfl rfl rfl ?_
  refine jT_ximul (x := 7) (y := y4) (z := 7 * y4) (pcN := 73) jIS_325_72 rfl (rfl) rfl ?_
  refine jT_xiload (v := (0, 5)) (pcN := 75) jIS_325_73 rfl rfl rfl ?_
  refine jT_xiadd (x := 7 * y4) (y := 5) (z := 7 * y4 + 5) (pcN := 76) jIS_325_75 rfl (by omega) rfl ?_
  refine jT_iald (x := 0) (a := 2) (j := (7 * y4 + 5).toNat) (fs := []) (X := jS0) (by rfl) (by rfl) (by rfl) (jw_nn (by omega) (by omega)) (jS0_r5 (by omega) (by omega)) ?_
  refine jT_eq (LN := [(5, (0, 0)), (4, (0, 0)), (7, (0, 5)), (6, (0, 0)), (0, (4, 0)), (1, (0, y4)), (2, (0, t)), (3, (4, 1))]) (stN := [(0, 0), (0, 0)]) (hsN := [jzS_251, (100, [], [k226_0, k226_1, k226_2, k226_3, k226_4, k226_5]), (100, [], jS0), jgh, jgh, jgh, jgh, jgh, jgh, jgh, jgh, jgh, jgh, jgh, jgh, jgh, jgh]) rfl rfl rfl ?_
  refine jT_xaload_n (v := (4, 0)) (pcN := 78) jIS_325_77 rfl rfl rfl ?_
  refine jT_xgetf (a := 0) (t := 1) (ci := 14) (fi := 1) (c := jzS_251) (v := (4, 2)) (pcN := 81) jIS_325_78 rfl rfl rfl rfl rfl rfl rfl ?_
  refine jT_xbipush (k := 7) (pcN := 83) jIS_325_81 (by decide) rfl ?_
  refine jT_xiload_n (v := (0, t)) (pcN := 84) jIS_325_83 rfl rfl rfl ?_
  refine jT_ximul (x := 7) (y := t) (z := 7 * t) (pcN := 85) jIS_325_84 rfl (rfl) rfl ?_
  refine jT_xiload (v := (0, 5)) (pcN := 87) jIS_325_85 rfl rfl rfl ?_
  refine jT_xiadd (x := 7 * t) (y := 5) (z := 7 * t + 5) (pcN := 88) jIS_325_87 rfl (by omega) rfl ?_
  refine jT_iald (x := 0) (a := 2) (j := (7 * t + 5).toNat) (fs := []) (X := jS0) (by rfl) (by rfl) (by rfl) (jw_nn (by omega) (by omega)) (jS0_r5 (by omega) (by omega)) ?_
  refine jT_eq (LN := [(5, (0, 0)), (4, (0, 0)), (7, (0, 5)), (6, (0, 0)), (0, (4, 0)), (1, (0, y4)), (2, (0, t)), (3, (4, 1))]) (stN := [(0, 0), (0, 0), (0, 0)]) (hsN := [jzS_251, (100, [], [k226_0, k226_1, k226_2, k226_3, k226_4, k226_5]), (100, [], jS0), jgh, jgh, jgh, jgh, jgh, jgh, jgh, jgh, jgh, jgh, jgh, jgh, jgh, jgh]) rfl rfl rfl ?_
  refine jT_xiadd (x := 0) (y := 0) (z := 0) (pcN := 90) jIS_325_89 rfl (by decide) rfl ?_
  refine jT_xaload_n (v := (4, 1)) (pcN := 91) jIS_325_90 rfl rfl rfl ?_
  refine jT_xiload (v := (0, 5)) (pcN := 93) jIS_325_91 rfl rfl rfl ?_
  refine jT_iald (x := k226_5) (a := 1) (j := 5) (fs := []) (X := [k226_0, k226_1, k226_2, k226_3, k226_4, k226_5]) jIS_325_93 rfl rfl rfl rfl ?_
  refine jT_eq (LN := [(5, (0, 0)), (4, (0, 0)), (7, (0, 5)), (6, (0, 0)), (0, (4, 0)), (1, (0, y4)), (2, (0, t)), (3, (4, 1))]) (stN := [(0, k226_5), (0, 0), (0, 0)]) (hsN := [jzS_251, (100, [], [k226_0, k226_1, k226_2, k226_3, k226_4, k226_5]), (100, [], jS0), jgh, jgh, jgh, jgh, jgh, jgh, jgh, jgh, jgh, jgh, jgh, jgh, jgh, jgh]) rfl rfl rfl ?_
  refine jT_ximul (x := 0) (y := k226_5) (z := 0) (pcN := 95) jIS_325_94 rfl (by omega) rfl ?_
  refine jT_xiadd (x := 0) (y := 0) (z := 0) (pcN := 96) jIS_325_95 rfl (by decide) rfl ?_
  refine jT_xistore (v := (0, 0)) (LN := [(6, (0, 0)), (5, (0, 0)), (4, (0, 0)), (7, (0, 5)), (0, (4, 0)), (1, (0, y4)), (2, (0, t)), (3, (4, 1))]) (pcN := 98) jIS_325_96 rfl rfl rfl rfl ?_
  refine jT_xiinc (x := 5) (z := 6) (LN := [(7, (0, 6)), (6, (0, 0)), (5, (0, 0)), (4, (0, 0)), (0, (4, 0)), (1, (0, y4)), (2, (0, t)), (3, (4, 1))]) (pcN := 101) jIS_325_98 rfl rfl (by decide) rfl rfl ?_
  refine jT_xgoto (pcN := 12) jIS_325_101 rfl ?_
  refine jT_xiload (v := (0, 6)) (pcN := 14) jIS_325_12 rfl rfl rfl ?_
  refine jT_xbipush (k := 6) (pcN := 16) jIS_325_14 (by decide) rfl ?_
  refine jT_xicT (pcN := 104) jIS_325_16 rfl (by decide +kernel) rfl ?_
  refine jT_xiload (v := (0, 0)) (pcN := 106) jIS_325_104 rfl rfl rfl ?_
  refine jT_xiload (v := (0, 0)) (pcN := 108) jIS_325_106 rfl rfl rfl ?_
  refine jT_xiload (v := (0, 0)) (pcN := 110) jIS_325_108 rfl rfl rfl ?_
  refine jT_xiadd (x := 0) (y := 0) (z := 0) (pcN := 111) jIS_325_110 rfl (by decide) rfl ?_
  refine jT_xicF (t := 118) (pcN := 114) jIS_325_111 rfl (by decide +kernel) rfl rfl ?_
  refine jT_xiconst (k := 1) (pcN := 115) jIS_325_114 rfl ?_
  refine jT_xgoto (pcN := 119) jIS_325_115 rfl ?_
  exact jT_ret rfl (by decide) (by show 17 ≤ 17; omega) (by omega) (by omega) ⟨rfl, rfl, rfl⟩
def jpS_586 : List JC := [jzS_244, (100, [], jS0), jgh, jgh, jgh, jgh, (130, [], [16, 17, 18, 19, 20, 21]), (101, [], [0, 0, 0, 0, 0, 0]), jgh, jgh, jgh, jgh, jgh, jgh, jgh, jgh, (100, [], (jenc (jlg 0))), (100, [], (jenc (jlg 1))), (100, [], (jenc (jlg 2))), (100, [], (jenc (jlg 3))), (100, [], (jenc (jlg 4))), (100, [], (jenc (jlg 5)))]
def jpS_587 : List JC := [jzS_244, (100, [], jS0), jgh, jgh, jgh, jgh, (130, [], [16, 17, 18, 19, 20, 21]), (101, [], [1, 0, 0, 0, 0, 0]), jgh, jgh, jgh, jgh, jgh, jgh, jgh, jgh, (100, [], (jenc (jlg 0))), (100, [], (jenc (jlg 1))), (100, [], (jenc (jlg 2))), (100, [], (jenc (jlg 3))), (100, [], (jenc (jlg 4))), (100, [], (jenc (jlg 5))), (101, [], [(-1), 0, 0, 0, 0, 0]), (100, [], (jenc 0)), (100, [], (jenc (-1))), (100, [], (jenc ((-1) * (jlg 0)))), (100, [], [1, 0, 0, 0, 0, 0, 1])]
def jpS_588 : List JC := [jzS_244, (100, [], jS0), jgh, jgh, jgh, jgh, (130, [], [16, 17, 18, 19, 20, 21]), (101, [], [1, 0, 0, 0, 0, 0]), jgh, jgh, jgh, jgh, jgh, jgh, jgh, jgh, (100, [], (jenc (jlg 0))), (100, [], (jenc (jlg 1))), (100, [], (jenc (jlg 2))), (100, [], (jenc (jlg 3))), (100, [], (jenc (jlg 4))), (100, [], (jenc (jlg 5))), (101, [], [(-1), 0, 0, 0, 0, 0]), (100, [], (jenc 0)), (100, [], (jenc (-1))), (100, [], (jenc ((-1) * (jlg 0)))), (100, [], [1, 0, 0, 0, 0, 0, 1]), (101, [], [(-1), 0, 0, 0, 0, 0]), (100, [], (jenc 0)), (100, [], (jenc (-1))), (100, [], (jenc ((-1) * (jlg 0)))), (100, [], [1, 0, 0, 0, 0, 0, 1])]
def jpS_589 : List JC := [jzS_244, (100, [], jS0), jgh, jgh, jgh, jgh, (130, [], [16, 17, 18, 19, 20, 21]), (101, [], [1, 0, 0, 0, 0, 0]), jgh, jgh, jgh, jgh, jgh, jgh, jgh, jgh, (100, [], (jenc (jlg 0))), (100, [], (jenc (jlg 1))), (100, [], (jenc (jlg 2))), (100, [], (jenc (jlg 3))), (100, [], (jenc (jlg 4))), (100, [], (jenc (jlg 5))), (101, [], [(-1), 0, 0, 0, 0, 0]), (100, [], (jenc 0)), (100, [], (jenc (-1))), (100, [], (jenc ((-1) * (jlg 0)))), (100, [], [1, 0, 0, 0, 0, 0, 1]), (101, [], [(-1), 0, 0, 0, 0, 0]), (100, [], (jenc 0)), (100, [], (jenc (-1))), (100, [], (jenc ((-1) * (jlg 0)))), (100, [], [1, 0, 0, 0, 0, 0, 1]), (101, [], [(-1), 0, 0, 0, 0, 0]), (100, [], (jenc 0)), (100, [], (jenc (-1))), (100, [], (jenc ((-1) * (jlg 0)))), (100, [], [1, 0, 0, 0, 0, 0, 1])]
def jpS_590 : List JC := [jzS_244, (100, [], jS0), jgh, jgh, jgh, jgh, (130, [], [16, 17, 18, 19, 20, 21]), (101, [], [1, 0, 0, 0, 0, 0]), jgh, jgh, jgh, jgh, jgh, jgh, jgh, jgh, (100, [], (jenc (jlg 0))), (100, [], (jenc (jlg 1))), (100, [], (jenc (jlg 2))), (100, [], (jenc (jlg 3))), (100, [], (jenc (jlg 4))), (100, [], (jenc (jlg 5))), (101, [], [(-1), 0, 0, 0, 0, 0]), (100, [], (jenc 0)), (100, [], (jenc (-1))), (100, [], (jenc ((-1) * (jlg 0)))), (100, [], [1, 0, 0, 0, 0, 0, 1]), (101, [], [(-1), 0, 0, 0, 0, 0]), (100, [], (jenc 0)), (100, [], (jenc (-1))), (100, [], (jenc ((-1) * (jlg 0)))), (100, [], [1, 0, 0, 0, 0, 0, 1]), (101, [], [(-1), 0, 0, 0, 0, 0]), (100, [], (jenc 0)), (100, [], (jenc (-1))), (100, [], (jenc ((-1) * (jlg 0)))), (100, [], [1, 0, 0, 0, 0, 0, 1]), (101, [], [(-1), 0, 0, 0, 0, 0]), (100, [], (jenc 0)), (100, [], (jenc (-1))), (100, [], (jenc ((-1) * (jlg 0)))), (100, [], [1, 0, 0, 0, 0, 0, 1])]
def jpS_591 : List JC := [jzS_244, (100, [], jS0), jgh, jgh, jgh, jgh, (130, [], [16, 17, 18, 19, 20, 21]), (101, [], [0, 0, 0, 0, 0, 0]), jgh, jgh, jgh, jgh, jgh, jgh, jgh, jgh, (100, [], (jenc (jlg 0))), (100, [], (jenc (jlg 1))), (100, [], (jenc (jlg 2))), (100, [], (jenc (jlg 3))), (100, [], (jenc (jlg 4))), (100, [], (jenc (jlg 5))), (101, [], [(-1), 0, 0, 0, 0, 0]), (100, [], (jenc 0)), (100, [], (jenc (-1))), (100, [], (jenc ((-1) * (jlg 0)))), (100, [], [1, 0, 0, 0, 0, 0, 1]), (101, [], [(-1), 0, 0, 0, 0, 0]), (100, [], (jenc 0)), (100, [], (jenc (-1))), (100, [], (jenc ((-1) * (jlg 0)))), (100, [], [1, 0, 0, 0, 0, 0, 1]), (101, [], [(-1), 0, 0, 0, 0, 0]), (100, [], (jenc 0)), (100, [], (jenc (-1))), (100, [], (jenc ((-1) * (jlg 0)))), (100, [], [1, 0, 0, 0, 0, 0, 1]), (101, [], [(-1), 0, 0, 0, 0, 0]), (100, [], (jenc 0)), (100, [], (jenc (-1))), (100, [], (jenc ((-1) * (jlg 0)))), (100, [], [1, 0, 0, 0, 0, 0, 1]), (101, [], [0, 0, 0, 0, 0, 0]), (101, [], [0, 0, 0, 0, 0, 0]), (101, [], [(-1), 0, 0, 0, 0, 0]), (100, [], (jenc 0)), (100, [], (jenc (-1))), (100, [], (jenc ((-1) * (jlg 0)))), (101, [], [0, 0, 0, 0, 0, 0]), (101, [], [0, 0, 0, 0, 0, 0]), (101, [], [(-1), 0, 0, 0, 0, 0]), (100, [], (jenc 0)), (100, [], (jenc (-1))), (100, [], (jenc ((-1) * (jlg 0)))), (101, [], [0, 0, 0, 0, 0, 0]), (101, [], [0, 0, 0, 0, 0, 0]), (101, [], [1, 0, 0, 0, 0, 0]), (101, [], [1, 0, 0, 0, 0, 0]), (100, [], (jenc 0)), (100, [], (jenc 1)), (100, [], (jenc (1 * (jlg 0)))), (101, [], [(-1), 0, 0, 0, 0, 0]), (100, [], (jenc 0)), (100, [], (jenc (-1))), (100, [], (jenc ((-1) * (jlg 0))))]
def jpS_592 : List JC := [jzS_244, (100, [], jS0), jgh, jgh, jgh, jgh, (130, [], [16, 17, 18, 19, 20, 21]), (101, [], [0, 0, 0, 0, 0, 0]), jgh, jgh, jgh, jgh, jgh, jgh, jgh, jgh, (100, [], (jenc (jlg 0))), (100, [], (jenc (jlg 1))), (100, [], (jenc (jlg 2))), (100, [], (jenc (jlg 3))), (100, [], (jenc (jlg 4))), (100, [], (jenc (jlg 5))), (101, [], [(-1), 0, 0, 0, 0, 0]), (100, [], (jenc 0)), (100, [], (jenc (-1))), (100, [], (jenc ((-1) * (jlg 0)))), (100, [], [1, 0, 0, 0, 0, 0, 1]), (101, [], [(-1), 0, 0, 0, 0, 0]), (100, [], (jenc 0)), (100, [], (jenc (-1))), (100, [], (jenc ((-1) * (jlg 0)))), (100, [], [1, 0, 0, 0, 0, 0, 1]), (101, [], [(-1), 0, 0, 0, 0, 0]), (100, [], (jenc 0)), (100, [], (jenc (-1))), (100, [], (jenc ((-1) * (jlg 0)))), (100, [], [1, 0, 0, 0, 0, 0, 1]), (101, [], [(-1), 0, 0, 0, 0, 0]), (100, [], (jenc 0)), (100, [], (jenc (-1))), (100, [], (jenc ((-1) * (jlg 0)))), (100, [], [1, 0, 0, 0, 0, 0, 1]), (101, [], [0, 0, 0, 0, 0, 0]), (101, [], [0, 0, 0, 0, 0, 0]), (101, [], [(-1), 0, 0, 0, 0, 0]), (100, [], (jenc 0)), (100, [], (jenc (-1))), (100, [], (jenc ((-1) * (jlg 0)))), (101, [], [0, 0, 0, 0, 0, 0]), (101, [], [0, 0, 0, 0, 0, 0]), (101, [], [(-1), 0, 0, 0, 0, 0]), (100, [], (jenc 0)), (100, [], (jenc (-1))), (100, [], (jenc ((-1) * (jlg 0)))), (101, [], [0, 0, 0, 0, 0, 0]), (101, [], [0, 0, 0, 0, 0, 0]), (101, [], [1, 0, 0, 0, 0, 0]), (101, [], [1, 0, 0, 0, 0, 0]), (100, [], (jenc 0)), (100, [], (jenc 1)), (100, [], (jenc (1 * (jlg 0)))), (101, [], [(-1), 0, 0, 0, 0, 0]), (100, [], (jenc 0)), (100, [], (jenc (-1))), (100, [], (jenc ((-1) * (jlg 0)))), (101, [], [0, 0, 0, 0, 0, 0]), (101, [], [0, 0, 0, 0, 0, 0]), (101, [], [(-1), 0, 0, 0, 0, 0]), (100, [], (jenc 0)), (100, [], (jenc (-1))), (100, [], (jenc ((-1) * (jlg 0)))), (101, [], [0, 0, 0, 0, 0, 0]), (101, [], [0, 0, 0, 0, 0, 0]), (101, [], [(-1), 0, 0, 0, 0, 0]), (100, [], (jenc 0)), (100, [], (jenc (-1))), (100, [], (jenc ((-1) * (jlg 0)))), (101, [], [0, 0, 0, 0, 0, 0]), (101, [], [0, 0, 0, 0, 0, 0]), (101, [], [1, 0, 0, 0, 0, 0]), (101, [], [1, 0, 0, 0, 0, 0]), (100, [], (jenc 0)), (100, [], (jenc 1)), (100, [], (jenc (1 * (jlg 0)))), (101, [], [(-1), 0, 0, 0, 0, 0]), (100, [], (jenc 0)), (100, [], (jenc (-1))), (100, [], (jenc ((-1) * (jlg 0))))]
def jpS_593 : List JC := [jzS_244, (100, [], jS0), jgh, jgh, jgh, jgh, (130, [], [16, 17, 18, 19, 20, 21]), (101, [], [0, 0, 0, 0, 0, 0]), jgh, jgh, jgh, jgh, jgh, jgh, jgh, jgh, (100, [], (jenc (jlg 0))), (100, [], (jenc (jlg 1))), (100, [], (jenc (jlg 2))), (100, [], (jenc (jlg 3))), (100, [], (jenc (jlg 4))), (100, [], (jenc (jlg 5))), (101, [], [(-1), 0, 0, 0, 0, 0]), (100, [], (jenc 0)), (100, [], (jenc (-1))), (100, [], (jenc ((-1) * (jlg 0)))), (100, [], [1, 0, 0, 0, 0, 0, 1]), (101, [], [(-1), 0, 0, 0, 0, 0]), (100, [], (jenc 0)), (100, [], (jenc (-1))), (100, [], (jenc ((-1) * (jlg 0)))), (100, [], [1, 0, 0, 0, 0, 0, 1]), (101, [], [(-1), 0, 0, 0, 0, 0]), (100, [], (jenc 0)), (100, [], (jenc (-1))), (100, [], (jenc ((-1) * (jlg 0)))), (100, [], [1, 0, 0, 0, 0, 0, 1]), (101, [], [(-1), 0, 0, 0, 0, 0]), (100, [], (jenc 0)), (100, [], (jenc (-1))), (100, [], (jenc ((-1) * (jlg 0)))), (100, [], [1, 0, 0, 0, 0, 0, 1]), (101, [], [0, 0, 0, 0, 0, 0]), (101, [], [0, 0, 0, 0, 0, 0]), (101, [], [(-1), 0, 0, 0, 0, 0]), (100, [], (jenc 0)), (100, [], (jenc (-1))), (100, [], (jenc ((-1) * (jlg 0)))), (101, [], [0, 0, 0, 0, 0, 0]), (101, [], [0, 0, 0, 0, 0, 0]), (101, [], [(-1), 0, 0, 0, 0, 0]), (100, [], (jenc 0)), (100, [], (jenc (-1))), (100, [], (jenc ((-1) * (jlg 0)))), (101, [], [0, 0, 0, 0, 0, 0]), (101, [], [0, 0, 0, 0, 0, 0]), (101, [], [1, 0, 0, 0, 0, 0]), (101, [], [1, 0, 0, 0, 0, 0]), (100, [], (jenc 0)), (100, [], (jenc 1)), (100, [], (jenc (1 * (jlg 0)))), (101, [], [(-1), 0, 0, 0, 0, 0]), (100, [], (jenc 0)), (100, [], (jenc (-1))), (100, [], (jenc ((-1) * (jlg 0)))), (101, [], [0, 0, 0, 0, 0, 0]), (101, [], [0, 0, 0, 0, 0, 0]), (101, [], [(-1), 0, 0, 0, 0, 0]), (100, [], (jenc 0)), (100, [], (jenc (-1))), (100, [], (jenc ((-1) * (jlg 0)))), (101, [], [0, 0, 0, 0, 0, 0]), (101, [], [0, 0, 0, 0, 0, 0]), (101, [], [(-1), 0, 0, 0, 0, 0]), (100, [], (jenc 0)), (100, [], (jenc (-1))), (100, [], (jenc ((-1) * (jlg 0)))), (101, [], [0, 0, 0, 0, 0, 0]), (101, [], [0, 0, 0, 0, 0, 0]), (101, [], [1, 0, 0, 0, 0, 0]), (101, [], [1, 0, 0, 0, 0, 0]), (100, [], (jenc 0)), (100, [], (jenc 1)), (100, [], (jenc (1 * (jlg 0)))), (101, [], [(-1), 0, 0, 0, 0, 0]), (100, [], (jenc 0)), (100, [], (jenc (-1))), (100, [], (jenc ((-1) * (jlg 0)))), (101, [], [0, 0, 0, 0, 0, 0]), (101, [], [0, 0, 0, 0, 0, 0]), (101, [], [(-1), 0, 0, 0, 0, 0]), (100, [], (jenc 0)), (100, [], (jenc (-1))), (100, [], (jenc ((-1) * (jlg 0)))), (101, [], [0, 0, 0, 0, 0, 0]), (101, [], [0, 0, 0, 0, 0, 0]), (101, [], [(-1), 0, 0, 0, 0, 0]), (100, [], (jenc 0)), (100, [], (jenc (-1))), (100, [], (jenc ((-1) * (jlg 0)))), (101, [], [0, 0, 0, 0, 0, 0]), (101, [], [0, 0, 0, 0, 0, 0]), (101, [], [1, 0, 0, 0, 0, 0]), (101, [], [1, 0, 0, 0, 0, 0]), (100, [], (jenc 0)), (100, [], (jenc 1)), (100, [], (jenc (1 * (jlg 0)))), (101, [], [(-1), 0, 0, 0, 0, 0]), (100, [], (jenc 0)), (100, [], (jenc (-1))), (100, [], (jenc ((-1) * (jlg 0))))]
def jpS_594 : List JC := [jzS_244, (100, [], jS0), jgh, jgh, jgh, jgh, (130, [], [16, 17, 18, 19, 20, 21]), (101, [], [0, 0, 0, 0, 0, 0]), jgh, jgh, jgh, jgh, jgh, jgh, jgh, jgh, (100, [], (jenc (jlg 0))), (100, [], (jenc (jlg 1))), (100, [], (jenc (jlg 2))), (100, [], (jenc (jlg 3))), (100, [], (jenc (jlg 4))), (100, [], (jenc (jlg 5))), (101, [], [(-1), 0, 0, 0, 0, 0]), (100, [], (jenc 0)), (100, [], (jenc (-1))), (100, [], (jenc ((-1) * (jlg 0)))), (100, [], [1, 0, 0, 0, 0, 0, 1]), (101, [], [(-1), 0, 0, 0, 0, 0]), (100, [], (jenc 0)), (100, [], (jenc (-1))), (100, [], (jenc ((-1) * (jlg 0)))), (100, [], [1, 0, 0, 0, 0, 0, 1]), (101, [], [(-1), 0, 0, 0, 0, 0]), (100, [], (jenc 0)), (100, [], (jenc (-1))), (100, [], (jenc ((-1) * (jlg 0)))), (100, [], [1, 0, 0, 0, 0, 0, 1]), (101, [], [(-1), 0, 0, 0, 0, 0]), (100, [], (jenc 0)), (100, [], (jenc (-1))), (100, [], (jenc ((-1) * (jlg 0)))), (100, [], [1, 0, 0, 0, 0, 0, 1]), (101, [], [0, 0, 0, 0, 0, 0]), (101, [], [0, 0, 0, 0, 0, 0]), (101, [], [(-1), 0, 0, 0, 0, 0]), (100, [], (jenc 0)), (100, [], (jenc (-1))), (100, [], (jenc ((-1) * (jlg 0)))), (101, [], [0, 0, 0, 0, 0, 0]), (101, [], [0, 0, 0, 0, 0, 0]), (101, [], [(-1), 0, 0, 0, 0, 0]), (100, [], (jenc 0)), (100, [], (jenc (-1))), (100, [], (jenc ((-1) * (jlg 0)))), (101, [], [0, 0, 0, 0, 0, 0]), (101, [], [0, 0, 0, 0, 0, 0]), (101, [], [1, 0, 0, 0, 0, 0]), (101, [], [1, 0, 0, 0, 0, 0]), (100, [], (jenc 0)), (100, [], (jenc 1)), (100, [], (jenc (1 * (jlg 0)))), (101, [], [(-1), 0, 0, 0, 0, 0]), (100, [], (jenc 0)), (100, [], (jenc (-1))), (100, [], (jenc ((-1) * (jlg 0)))), (101, [], [0, 0, 0, 0, 0, 0]), (101, [], [0, 0, 0, 0, 0, 0]), (101, [], [(-1), 0, 0, 0, 0, 0]), (100, [], (jenc 0)), (100, [], (jenc (-1))), (100, [], (jenc ((-1) * (jlg 0)))), (101, [], [0, 0, 0, 0, 0, 0]), (101, [], [0, 0, 0, 0, 0, 0]), (101, [], [(-1), 0, 0, 0, 0, 0]), (100, [], (jenc 0)), (100, [], (jenc (-1))), (100, [], (jenc ((-1) * (jlg 0)))), (101, [], [0, 0, 0, 0, 0, 0]), (101, [], [0, 0, 0, 0, 0, 0]), (101, [], [1, 0, 0, 0, 0, 0]), (101, [], [1, 0, 0, 0, 0, 0]), (100, [], (jenc 0)), (100, [], (jenc 1)), (100, [], (jenc (1 * (jlg 0)))), (101, [], [(-1), 0, 0, 0, 0, 0]), (100, [], (jenc 0)), (100, [], (jenc (-1))), (100, [], (jenc ((-1) * (jlg 0)))), (101, [], [0, 0, 0, 0, 0, 0]), (101, [], [0, 0, 0, 0, 0, 0]), (101, [], [(-1), 0, 0, 0, 0, 0]), (100, [], (jenc 0)), (100, [], (jenc (-1))), (100, [], (jenc ((-1) * (jlg 0)))), (101, [], [0, 0, 0, 0, 0, 0]), (101, [], [0, 0, 0, 0, 0, 0]), (101, [], [(-1), 0, 0, 0, 0, 0]), (100, [], (jenc 0)), (100, [], (jenc (-1))), (100, [], (jenc ((-1) * (jlg 0)))), (101, [], [0, 0, 0, 0, 0, 0]), (101, [], [0, 0, 0, 0, 0, 0]), (101, [], [1, 0, 0, 0, 0, 0]), (101, [], [1, 0, 0, 0, 0, 0]), (100, [], (jenc 0)), (100, [], (jenc 1)), (100, [], (jenc (1 * (jlg 0)))), (101, [], [(-1), 0, 0, 0, 0, 0]), (100, [], (jenc 0)), (100, [], (jenc (-1))), (100, [], (jenc ((-1) * (jlg 0)))), (101, [], [0, 0, 0, 0, 0, 0]), (101, [], [0, 0, 0, 0, 0, 0]), (101, [], [(-1), 0, 0, 0, 0, 0]), (100, [], (jenc 0)), (100, [], (jenc (-1))), (100, [], (jenc ((-1) * (jlg 0)))), (101, [], [0, 0, 0, 0, 0, 0]), (101, [], [0, 0, 0, 0, 0, 0]), (101, [], [(-1), 0, 0, 0, 0, 0]), (100, [], (jenc 0)), (100, [], (jenc (-1))), (100, [], (jenc ((-1) * (jlg 0)))), (101, [], [0, 0, 0, 0, 0, 0]), (101, [], [0, 0, 0, 0, 0, 0]), (101, [], [1, 0, 0, 0, 0, 0]), (101, [], [1, 0, 0, 0, 0, 0]), (100, [], (jenc 0)), (100, [], (jenc 1)), (100, [], (jenc (1 * (jlg 0)))), (101, [], [(-1), 0, 0, 0, 0, 0]), (100, [], (jenc 0)), (100, [], (jenc (-1))), (100, [], (jenc ((-1) * (jlg 0))))]
def jpS_595 : List JC := [jzS_244, (100, [], jS0), jgh, jgh, jgh, jgh, (130, [], [16, 17, 18, 19, 20, 21]), (101, [], [0, 0, 0, 0, 0, 0]), jgh, jgh, jgh, jgh, jgh, jgh, jgh, jgh, (100, [], (jenc (jlg 0))), (100, [], (jenc (jlg 1))), (100, [], (jenc (jlg 2))), (100, [], (jenc (jlg 3))), (100, [], (jenc (jlg 4))), (100, [], (jenc (jlg 5))), (101, [], [(-1), 0, 0, 0, 0, 0]), (100, [], (jenc 0)), (100, [], (jenc (-1))), (100, [], (jenc ((-1) * (jlg 0)))), (100, [], [1, 0, 0, 0, 0, 0, 1]), (101, [], [(-1), 0, 0, 0, 0, 0]), (100, [], (jenc 0)), (100, [], (jenc (-1))), (100, [], (jenc ((-1) * (jlg 0)))), (100, [], [1, 0, 0, 0, 0, 0, 1]), (101, [], [(-1), 0, 0, 0, 0, 0]), (100, [], (jenc 0)), (100, [], (jenc (-1))), (100, [], (jenc ((-1) * (jlg 0)))), (100, [], [1, 0, 0, 0, 0, 0, 1]), (101, [], [(-1), 0, 0, 0, 0, 0]), (100, [], (jenc 0)), (100, [], (jenc (-1))), (100, [], (jenc ((-1) * (jlg 0)))), (100, [], [1, 0, 0, 0, 0, 0, 1]), (101, [], [0, 0, 0, 0, 0, 0]), (101, [], [0, 0, 0, 0, 0, 0]), (101, [], [(-1), 0, 0, 0, 0, 0]), (100, [], (jenc 0)), (100, [], (jenc (-1))), (100, [], (jenc ((-1) * (jlg 0)))), (101, [], [0, 0, 0, 0, 0, 0]), (101, [], [0, 0, 0, 0, 0, 0]), (101, [], [(-1), 0, 0, 0, 0, 0]), (100, [], (jenc 0)), (100, [], (jenc (-1))), (100, [], (jenc ((-1) * (jlg 0)))), (101, [], [0, 0, 0, 0, 0, 0]), (101, [], [0, 0, 0, 0, 0, 0]), (101, [], [1, 0, 0, 0, 0, 0]), (101, [], [1, 0, 0, 0, 0, 0]), (100, [], (jenc 0)), (100, [], (jenc 1)), (100, [], (jenc (1 * (jlg 0)))), (101, [], [(-1), 0, 0, 0, 0, 0]), (100, [], (jenc 0)), (100, [], (jenc (-1))), (100, [], (jenc ((-1) * (jlg 0)))), (101, [], [0, 0, 0, 0, 0, 0]), (101, [], [0, 0, 0, 0, 0, 0]), (101, [], [(-1), 0, 0, 0, 0, 0]), (100, [], (jenc 0)), (100, [], (jenc (-1))), (100, [], (jenc ((-1) * (jlg 0)))), (101, [], [0, 0, 0, 0, 0, 0]), (101, [], [0, 0, 0, 0, 0, 0]), (101, [], [(-1), 0, 0, 0, 0, 0]), (100, [], (jenc 0)), (100, [], (jenc (-1))), (100, [], (jenc ((-1) * (jlg 0)))), (101, [], [0, 0, 0, 0, 0, 0]), (101, [], [0, 0, 0, 0, 0, 0]), (101, [], [1, 0, 0, 0, 0, 0]), (101, [], [1, 0, 0, 0, 0, 0]), (100, [], (jenc 0)), (100, [], (jenc 1)), (100, [], (jenc (1 * (jlg 0)))), (101, [], [(-1), 0, 0, 0, 0, 0]), (100, [], (jenc 0)), (100, [], (jenc (-1))), (100, [], (jenc ((-1) * (jlg 0)))), (101, [], [0, 0, 0, 0, 0, 0]), (101, [], [0, 0, 0, 0, 0, 0]), (101, [], [(-1), 0, 0, 0, 0, 0]), (100, [], (jenc 0)), (100, [], (jenc (-1))), (100, [], (jenc ((-1) * (jlg 0)))), (101, [], [0, 0, 0, 0, 0, 0]), (101, [], [0, 0, 0, 0, 0, 0]), (101, [], [(-1), 0, 0, 0, 0, 0]), (100, [], (jenc 0)), (100, [], (jenc (-1))), (100, [], (jenc ((-1) * (jlg 0)))), (101, [], [0, 0, 0, 0, 0, 0]), (101, [], [0, 0, 0, 0, 0, 0]), (101, [], [1, 0, 0, 0, 0, 0]), (101, [], [1, 0, 0, 0, 0, 0]), (100, [], (jenc 0)), (100, [], (jenc 1)), (100, [], (jenc (1 * (jlg 0)))), (101, [], [(-1), 0, 0, 0, 0, 0]), (100, [], (jenc 0)), (100, [], (jenc (-1))), (100, [], (jenc ((-1) * (jlg 0)))), (101, [], [0, 0, 0, 0, 0, 0]), (101, [], [0, 0, 0, 0, 0, 0]), (101, [], [(-1), 0, 0, 0, 0, 0]), (100, [], (jenc 0)), (100, [], (jenc (-1))), (100, [], (jenc ((-1) * (jlg 0)))), (101, [], [0, 0, 0, 0, 0, 0]), (101, [], [0, 0, 0, 0, 0, 0]), (101, [], [(-1), 0, 0, 0, 0, 0]), (100, [], (jenc 0)), (100, [], (jenc (-1))), (100, [], (jenc ((-1) * (jlg 0)))), (101, [], [0, 0, 0, 0, 0, 0]), (101, [], [0, 0, 0, 0, 0, 0]), (101, [], [1, 0, 0, 0, 0, 0]), (101, [], [1, 0, 0, 0, 0, 0]), (100, [], (jenc 0)), (100, [], (jenc 1)), (100, [], (jenc (1 * (jlg 0)))), (101, [], [(-1), 0, 0, 0, 0, 0]), (100, [], (jenc 0)), (100, [], (jenc (-1))), (100, [], (jenc ((-1) * (jlg 0)))), (101, [], [0, 0, 0, 0, 0, 0]), (101, [], [0, 0, 0, 0, 0, 0]), (101, [], [(-1), 0, 0, 0, 0, 0]), (100, [], (jenc 0)), (100, [], (jenc (-1))), (100, [], (jenc ((-1) * (jlg 0)))), (101, [], [0, 0, 0, 0, 0, 0]), (101, [], [0, 0, 0, 0, 0, 0]), (101, [], [(-1), 0, 0, 0, 0, 0]), (100, [], (jenc 0)), (100, [], (jenc (-1))), (100, [], (jenc ((-1) * (jlg 0)))), (101, [], [0, 0, 0, 0, 0, 0]), (101, [], [0, 0, 0, 0, 0, 0]), (101, [], [1, 0, 0, 0, 0, 0]), (101, [], [1, 0, 0, 0, 0, 0]), (100, [], (jenc 0)), (100, [], (jenc 1)), (100, [], (jenc (1 * (jlg 0)))), (101, [], [(-1), 0, 0, 0, 0, 0]), (100, [], (jenc 0)), (100, [], (jenc (-1))), (100, [], (jenc ((-1) * (jlg 0))))]
def jpS_596 : List JC := [jzS_244, (100, [], jS0), jgh, jgh, jgh, jgh, (130, [], [16, 17, 18, 19, 20, 21]), (101, [], [0, 0, 0, 0, 0, 0]), jgh, jgh, jgh, jgh, jgh, jgh, jgh, jgh, (100, [], (jenc (jlg 0))), (100, [], (jenc (jlg 1))), (100, [], (jenc (jlg 2))), (100, [], (jenc (jlg 3))), (100, [], (jenc (jlg 4))), (100, [], (jenc (jlg 5))), (101, [], [(-1), 0, 0, 0, 0, 0]), (100, [], (jenc 0)), (100, [], (jenc (-1))), (100, [], (jenc ((-1) * (jlg 0)))), (100, [], [1, 0, 0, 0, 0, 0, 1]), (101, [], [(-1), 0, 0, 0, 0, 0]), (100, [], (jenc 0)), (100, [], (jenc (-1))), (100, [], (jenc ((-1) * (jlg 0)))), (100, [], [1, 0, 0, 0, 0, 0, 1]), (101, [], [(-1), 0, 0, 0, 0, 0]), (100, [], (jenc 0)), (100, [], (jenc (-1))), (100, [], (jenc ((-1) * (jlg 0)))), (100, [], [1, 0, 0, 0, 0, 0, 1]), (101, [], [(-1), 0, 0, 0, 0, 0]), (100, [], (jenc 0)), (100, [], (jenc (-1))), (100, [], (jenc ((-1) * (jlg 0)))), (100, [], [1, 0, 0, 0, 0, 0, 1]), (101, [], [0, 0, 0, 0, 0, 0]), (101, [], [0, 0, 0, 0, 0, 0]), (101, [], [(-1), 0, 0, 0, 0, 0]), (100, [], (jenc 0)), (100, [], (jenc (-1))), (100, [], (jenc ((-1) * (jlg 0)))), (101, [], [0, 0, 0, 0, 0, 0]), (101, [], [0, 0, 0, 0, 0, 0]), (101, [], [(-1), 0, 0, 0, 0, 0]), (100, [], (jenc 0)), (100, [], (jenc (-1))), (100, [], (jenc ((-1) * (jlg 0)))), (101, [], [0, 0, 0, 0, 0, 0]), (101, [], [0, 0, 0, 0, 0, 0]), (101, [], [1, 0, 0, 0, 0, 0]), (101, [], [1, 0, 0, 0, 0, 0]), (100, [], (jenc 0)), (100, [], (jenc 1)), (100, [], (jenc (1 * (jlg 0)))), (101, [], [(-1), 0, 0, 0, 0, 0]), (100, [], (jenc 0)), (100, [], (jenc (-1))), (100, [], (jenc ((-1) * (jlg 0)))), (101, [], [0, 0, 0, 0, 0, 0]), (101, [], [0, 0, 0, 0, 0, 0]), (101, [], [(-1), 0, 0, 0, 0, 0]), (100, [], (jenc 0)), (100, [], (jenc (-1))), (100, [], (jenc ((-1) * (jlg 0)))), (101, [], [0, 0, 0, 0, 0, 0]), (101, [], [0, 0, 0, 0, 0, 0]), (101, [], [(-1), 0, 0, 0, 0, 0]), (100, [], (jenc 0)), (100, [], (jenc (-1))), (100, [], (jenc ((-1) * (jlg 0)))), (101, [], [0, 0, 0, 0, 0, 0]), (101, [], [0, 0, 0, 0, 0, 0]), (101, [], [1, 0, 0, 0, 0, 0]), (101, [], [1, 0, 0, 0, 0, 0]), (100, [], (jenc 0)), (100, [], (jenc 1)), (100, [], (jenc (1 * (jlg 0)))), (101, [], [(-1), 0, 0, 0, 0, 0]), (100, [], (jenc 0)), (100, [], (jenc (-1))), (100, [], (jenc ((-1) * (jlg 0)))), (101, [], [0, 0, 0, 0, 0, 0]), (101, [], [0, 0, 0, 0, 0, 0]), (101, [], [(-1), 0, 0, 0, 0, 0]), (100, [], (jenc 0)), (100, [], (jenc (-1))), (100, [], (jenc ((-1) * (jlg 0)))), (101, [], [0, 0, 0, 0, 0, 0]), (101, [], [0, 0, 0, 0, 0, 0]), (101, [], [(-1), 0, 0, 0, 0, 0]), (100, [], (jenc 0)), (100, [], (jenc (-1))), (100, [], (jenc ((-1) * (jlg 0)))), (101, [], [0, 0, 0, 0, 0, 0]), (101, [], [0, 0, 0, 0, 0, 0]), (101, [], [1, 0, 0, 0, 0, 0]), (101, [], [1, 0, 0, 0, 0, 0]), (100, [], (jenc 0)), (100, [], (jenc 1)), (100, [], (jenc (1 * (jlg 0)))), (101, [], [(-1), 0, 0, 0, 0, 0]), (100, [], (jenc 0)), (100, [], (jenc (-1))), (100, [], (jenc ((-1) * (jlg 0)))), (101, [], [0, 0, 0, 0, 0, 0]), (101, [], [0, 0, 0, 0, 0, 0]), (101, [], [(-1), 0, 0, 0, 0, 0]), (100, [], (jenc 0)), (100, [], (jenc (-1))), (100, [], (jenc ((-1) * (jlg 0)))), (101, [], [0, 0, 0, 0, 0, 0]), (101, [], [0, 0, 0, 0, 0, 0]), (101, [], [(-1), 0, 0, 0, 0, 0]), (100, [], (jenc 0)), (100, [], (jenc (-1))), (100, [], (jenc ((-1) * (jlg 0)))), (101, [], [0, 0, 0, 0, 0, 0]), (101, [], [0, 0, 0, 0, 0, 0]), (101, [], [1, 0, 0, 0, 0, 0]), (101, [], [1, 0, 0, 0, 0, 0]), (100, [], (jenc 0)), (100, [], (jenc 1)), (100, [], (jenc (1 * (jlg 0)))), (101, [], [(-1), 0, 0, 0, 0, 0]), (100, [], (jenc 0)), (100, [], (jenc (-1))), (100, [], (jenc ((-1) * (jlg 0)))), (101, [], [0, 0, 0, 0, 0, 0]), (101, [], [0, 0, 0, 0, 0, 0]), (101, [], [(-1), 0, 0, 0, 0, 0]), (100, [], (jenc 0)), (100, [], (jenc (-1))), (100, [], (jenc ((-1) * (jlg 0)))), (101, [], [0, 0, 0, 0, 0, 0]), (101, [], [0, 0, 0, 0, 0, 0]), (101, [], [(-1), 0, 0, 0, 0, 0]), (100, [], (jenc 0)), (100, [], (jenc (-1))), (100, [], (jenc ((-1) * (jlg 0)))), (101, [], [0, 0, 0, 0, 0, 0]), (101, [], [0, 0, 0, 0, 0, 0]), (101, [], [1, 0, 0, 0, 0, 0]), (101, [], [1, 0, 0, 0, 0, 0]), (100, [], (jenc 0)), (100, [], (jenc 1)), (100, [], (jenc (1 * (jlg 0)))), (101, [], [(-1), 0, 0, 0, 0, 0]), (100, [], (jenc 0)), (100, [], (jenc (-1))), (100, [], (jenc ((-1) * (jlg 0)))), (101, [], [0, 0, 0, 0, 0, 0]), (101, [], [0, 0, 0, 0, 0, 0]), (101, [], [(-1), 0, 0, 0, 0, 0]), (100, [], (jenc 0)), (100, [], (jenc (-1))), (100, [], (jenc ((-1) * (jlg 0)))), (101, [], [0, 0, 0, 0, 0, 0]), (101, [], [0, 0, 0, 0, 0, 0]), (101, [], [(-1), 0, 0, 0, 0, 0]), (100, [], (jenc 0)), (100, [], (jenc (-1))), (100, [], (jenc ((-1) * (jlg 0)))), (101, [], [0, 0, 0, 0, 0, 0]), (101, [], [0, 0, 0, 0, 0, 0]), (101, [], [1, 0, 0, 0, 0, 0]), (101, [], [1, 0, 0, 0, 0, 0]), (100, [], (jenc 0)), (100, [], (jenc 1)), (100, [], (jenc (1 * (jlg 0)))), (101, [], [(-1), 0, 0, 0, 0, 0]), (100, [], (jenc 0)), (100, [], (jenc (-1))), (100, [], (jenc ((-1) * (jlg 0))))]
def jpS_597 : List JC := [jzS_244, (100, [], jS0), jgh, jgh, jgh, jgh, (130, [], [16, 17, 18, 19, 20, 21]), (101, [], [0, 0, 0, 0, 0, 0]), jgh, jgh, jgh, jgh, jgh, jgh, jgh, jgh, (100, [], (jenc (jlg 0))), (100, [], (jenc (jlg 1))), (100, [], (jenc (jlg 2))), (100, [], (jenc (jlg 3))), (100, [], (jenc (jlg 4))), (100, [], (jenc (jlg 5))), (101, [], [(-1), 0, 0, 0, 0, 0]), (100, [], (jenc 0)), (100, [], (jenc (-1))), (100, [], (jenc ((-1) * (jlg 0)))), (100, [], [1, 0, 0, 0, 0, 0, 1]), (101, [], [(-1), 0, 0, 0, 0, 0]), (100, [], (jenc 0)), (100, [], (jenc (-1))), (100, [], (jenc ((-1) * (jlg 0)))), (100, [], [1, 0, 0, 0, 0, 0, 1]), (101, [], [(-1), 0, 0, 0, 0, 0]), (100, [], (jenc 0)), (100, [], (jenc (-1))), (100, [], (jenc ((-1) * (jlg 0)))), (100, [], [1, 0, 0, 0, 0, 0, 1]), (101, [], [(-1), 0, 0, 0, 0, 0]), (100, [], (jenc 0)), (100, [], (jenc (-1))), (100, [], (jenc ((-1) * (jlg 0)))), (100, [], [1, 0, 0, 0, 0, 0, 1]), (101, [], [0, 0, 0, 0, 0, 0]), (101, [], [0, 0, 0, 0, 0, 0]), (101, [], [(-1), 0, 0, 0, 0, 0]), (100, [], (jenc 0)), (100, [], (jenc (-1))), (100, [], (jenc ((-1) * (jlg 0)))), (101, [], [0, 0, 0, 0, 0, 0]), (101, [], [0, 0, 0, 0, 0, 0]), (101, [], [(-1), 0, 0, 0, 0, 0]), (100, [], (jenc 0)), (100, [], (jenc (-1))), (100, [], (jenc ((-1) * (jlg 0)))), (101, [], [0, 0, 0, 0, 0, 0]), (101, [], [0, 0, 0, 0, 0, 0]), (101, [], [1, 0, 0, 0, 0, 0]), (101, [], [1, 0, 0, 0, 0, 0]), (100, [], (jenc 0)), (100, [], (jenc 1)), (100, [], (jenc (1 * (jlg 0)))), (101, [], [(-1), 0, 0, 0, 0, 0]), (100, [], (jenc 0)), (100, [], (jenc (-1))), (100, [], (jenc ((-1) * (jlg 0)))), (101, [], [0, 0, 0, 0, 0, 0]), (101, [], [0, 0, 0, 0, 0, 0]), (101, [], [(-1), 0, 0, 0, 0, 0]), (100, [], (jenc 0)), (100, [], (jenc (-1))), (100, [], (jenc ((-1) * (jlg 0)))), (101, [], [0, 0, 0, 0, 0, 0]), (101, [], [0, 0, 0, 0, 0, 0]), (101, [], [(-1), 0, 0, 0, 0, 0]), (100, [], (jenc 0)), (100, [], (jenc (-1))), (100, [], (jenc ((-1) * (jlg 0)))), (101, [], [0, 0, 0, 0, 0, 0]), (101, [], [0, 0, 0, 0, 0, 0]), (101, [], [1, 0, 0, 0, 0, 0]), (101, [], [1, 0, 0, 0, 0, 0]), (100, [], (jenc 0)), (100, [], (jenc 1)), (100, [], (jenc (1 * (jlg 0)))), (101, [], [(-1), 0, 0, 0, 0, 0]), (100, [], (jenc 0)), (100, [], (jenc (-1))), (100, [], (jenc ((-1) * (jlg 0)))), (101, [], [0, 0, 0, 0, 0, 0]), (101, [], [0, 0, 0, 0, 0, 0]), (101, [], [(-1), 0, 0, 0, 0, 0]), (100, [], (jenc 0)), (100, [], (jenc (-1))), (100, [], (jenc ((-1) * (jlg 0)))), (101, [], [0, 0, 0, 0, 0, 0]), (101, [], [0, 0, 0, 0, 0, 0]), (101, [], [(-1), 0, 0, 0, 0, 0]), (100, [], (jenc 0)), (100, [], (jenc (-1))), (100, [], (jenc ((-1) * (jlg 0)))), (101, [], [0, 0, 0, 0, 0, 0]), (101, [], [0, 0, 0, 0, 0, 0]), (101, [], [1, 0, 0, 0, 0, 0]), (101, [], [1, 0, 0, 0, 0, 0]), (100, [], (jenc 0)), (100, [], (jenc 1)), (100, [], (jenc (1 * (jlg 0)))), (101, [], [(-1), 0, 0, 0, 0, 0]), (100, [], (jenc 0)), (100, [], (jenc (-1))), (100, [], (jenc ((-1) * (jlg 0)))), (101, [], [0, 0, 0, 0, 0, 0]), (101, [], [0, 0, 0, 0, 0, 0]), (101, [], [(-1), 0, 0, 0, 0, 0]), (100, [], (jenc 0)), (100, [], (jenc (-1))), (100, [], (jenc ((-1) * (jlg 0)))), (101, [], [0, 0, 0, 0, 0, 0]), (101, [], [0, 0, 0, 0, 0, 0]), (101, [], [(-1), 0, 0, 0, 0, 0]), (100, [], (jenc 0)), (100, [], (jenc (-1))), (100, [], (jenc ((-1) * (jlg 0)))), (101, [], [0, 0, 0, 0, 0, 0]), (101, [], [0, 0, 0, 0, 0, 0]), (101, [], [1, 0, 0, 0, 0, 0]), (101, [], [1, 0, 0, 0, 0, 0]), (100, [], (jenc 0)), (100, [], (jenc 1)), (100, [], (jenc (1 * (jlg 0)))), (101, [], [(-1), 0, 0, 0, 0, 0]), (100, [], (jenc 0)), (100, [], (jenc (-1))), (100, [], (jenc ((-1) * (jlg 0)))), (101, [], [0, 0, 0, 0, 0, 0]), (101, [], [0, 0, 0, 0, 0, 0]), (101, [], [(-1), 0, 0, 0, 0, 0]), (100, [], (jenc 0)), (100, [], (jenc (-1))), (100, [], (jenc ((-1) * (jlg 0)))), (101, [], [0, 0, 0, 0, 0, 0]), (101, [], [0, 0, 0, 0, 0, 0]), (101, [], [(-1), 0, 0, 0, 0, 0]), (100, [], (jenc 0)), (100, [], (jenc (-1))), (100, [], (jenc ((-1) * (jlg 0)))), (101, [], [0, 0, 0, 0, 0, 0]), (101, [], [0, 0, 0, 0, 0, 0]), (101, [], [1, 0, 0, 0, 0, 0]), (101, [], [1, 0, 0, 0, 0, 0]), (100, [], (jenc 0)), (100, [], (jenc 1)), (100, [], (jenc (1 * (jlg 0)))), (101, [], [(-1), 0, 0, 0, 0, 0]), (100, [], (jenc 0)), (100, [], (jenc (-1))), (100, [], (jenc ((-1) * (jlg 0)))), (101, [], [0, 0, 0, 0, 0, 0]), (101, [], [0, 0, 0, 0, 0, 0]), (101, [], [(-1), 0, 0, 0, 0, 0]), (100, [], (jenc 0)), (100, [], (jenc (-1))), (100, [], (jenc ((-1) * (jlg 0)))), (101, [], [0, 0, 0, 0, 0, 0]), (101, [], [0, 0, 0, 0, 0, 0]), (101, [], [(-1), 0, 0, 0, 0, 0]), (100, [], (jenc 0)), (100, [], (jenc (-1))), (100, [], (jenc ((-1) * (jlg 0)))), (101, [], [0, 0, 0, 0, 0, 0]), (101, [], [0, 0, 0, 0, 0, 0]), (101, [], [1, 0, 0, 0, 0, 0]), (101, [], [1, 0, 0, 0, 0, 0]), (100, [], (jenc 0)), (100, [], (jenc 1)), (100, [], (jenc (1 * (jlg 0)))), (101, [], [(-1), 0, 0, 0, 0, 0]), (100, [], (jenc 0)), (100, [], (jenc (-1))), (100, [], (jenc ((-1) * (jlg 0)))), (101, [], [0, 0, 0, 0, 0, 0]), (101, [], [0, 0, 0, 0, 0, 0]), (101, [], [(-1), 0, 0, 0, 0, 0]), (100, [], (jenc 0)), (100, [], (jenc (-1))), (100, [], (jenc ((-1) * (jlg 0)))), (101, [], [0, 0, 0, 0, 0, 0]), (101, [], [0, 0, 0, 0, 0, 0]), (101, [], [(-1), 0, 0, 0, 0, 0]), (100, [], (jenc 0)), (100, [], (jenc (-1))), (100, [], (jenc ((-1) * (jlg 0)))), (101, [], [0, 0, 0, 0, 0, 0]), (101, [], [0, 0, 0, 0, 0, 0]), (101, [], [1, 0, 0, 0, 0, 0]), (101, [], [1, 0, 0, 0, 0, 0]), (100, [], (jenc 0)), (100, [], (jenc 1)), (100, [], (jenc (1 * (jlg 0)))), (101, [], [(-1), 0, 0, 0, 0, 0]), (100, [], (jenc 0)), (100, [], (jenc (-1))), (100, [], (jenc ((-1) * (jlg 0))))]
def jpS_598 : List JC := [jzS_244, (100, [], jS0), jgh, jgh, jgh, jgh, (130, [], [16, 17, 18, 19, 20, 21]), (101, [], [0, 0, 0, 0, 0, 0]), jgh, jgh, jgh, jgh, jgh, jgh, jgh, jgh, (100, [], (jenc (jlg 0))), (100, [], (jenc (jlg 1))), (100, [], (jenc (jlg 2))), (100, [], (jenc (jlg 3))), (100, [], (jenc (jlg 4))), (100, [], (jenc (jlg 5))), (101, [], [(-1), 0, 0, 0, 0, 0]), (100, [], (jenc 0)), (100, [], (jenc (-1))), (100, [], (jenc ((-1) * (jlg 0)))), (100, [], [1, 0, 0, 0, 0, 0, 1]), (101, [], [(-1), 0, 0, 0, 0, 0]), (100, [], (jenc 0)), (100, [], (jenc (-1))), (100, [], (jenc ((-1) * (jlg 0)))), (100, [], [1, 0, 0, 0, 0, 0, 1]), (101, [], [(-1), 0, 0, 0, 0, 0]), (100, [], (jenc 0)), (100, [], (jenc (-1))), (100, [], (jenc ((-1) * (jlg 0)))), (100, [], [1, 0, 0, 0, 0, 0, 1]), (101, [], [(-1), 0, 0, 0, 0, 0]), (100, [], (jenc 0)), (100, [], (jenc (-1))), (100, [], (jenc ((-1) * (jlg 0)))), (100, [], [1, 0, 0, 0, 0, 0, 1]), (101, [], [0, 0, 0, 0, 0, 0]), (101, [], [0, 0, 0, 0, 0, 0]), (101, [], [(-1), 0, 0, 0, 0, 0]), (100, [], (jenc 0)), (100, [], (jenc (-1))), (100, [], (jenc ((-1) * (jlg 0)))), (101, [], [0, 0, 0, 0, 0, 0]), (101, [], [0, 0, 0, 0, 0, 0]), (101, [], [(-1), 0, 0, 0, 0, 0]), (100, [], (jenc 0)), (100, [], (jenc (-1))), (100, [], (jenc ((-1) * (jlg 0)))), (101, [], [0, 0, 0, 0, 0, 0]), (101, [], [0, 0, 0, 0, 0, 0]), (101, [], [1, 0, 0, 0, 0, 0]), (101, [], [1, 0, 0, 0, 0, 0]), (100, [], (jenc 0)), (100, [], (jenc 1)), (100, [], (jenc (1 * (jlg 0)))), (101, [], [(-1), 0, 0, 0, 0, 0]), (100, [], (jenc 0)), (100, [], (jenc (-1))), (100, [], (jenc ((-1) * (jlg 0)))), (101, [], [0, 0, 0, 0, 0, 0]), (101, [], [0, 0, 0, 0, 0, 0]), (101, [], [(-1), 0, 0, 0, 0, 0]), (100, [], (jenc 0)), (100, [], (jenc (-1))), (100, [], (jenc ((-1) * (jlg 0)))), (101, [], [0, 0, 0, 0, 0, 0]), (101, [], [0, 0, 0, 0, 0, 0]), (101, [], [(-1), 0, 0, 0, 0, 0]), (100, [], (jenc 0)), (100, [], (jenc (-1))), (100, [], (jenc ((-1) * (jlg 0)))), (101, [], [0, 0, 0, 0, 0, 0]), (101, [], [0, 0, 0, 0, 0, 0]), (101, [], [1, 0, 0, 0, 0, 0]), (101, [], [1, 0, 0, 0, 0, 0]), (100, [], (jenc 0)), (100, [], (jenc 1)), (100, [], (jenc (1 * (jlg 0)))), (101, [], [(-1), 0, 0, 0, 0, 0]), (100, [], (jenc 0)), (100, [], (jenc (-1))), (100, [], (jenc ((-1) * (jlg 0)))), (101, [], [0, 0, 0, 0, 0, 0]), (101, [], [0, 0, 0, 0, 0, 0]), (101, [], [(-1), 0, 0, 0, 0, 0]), (100, [], (jenc 0)), (100, [], (jenc (-1))), (100, [], (jenc ((-1) * (jlg 0)))), (101, [], [0, 0, 0, 0, 0, 0]), (101, [], [0, 0, 0, 0, 0, 0]), (101, [], [(-1), 0, 0, 0, 0, 0]), (100, [], (jenc 0)), (100, [], (jenc (-1))), (100, [], (jenc ((-1) * (jlg 0)))), (101, [], [0, 0, 0, 0, 0, 0]), (101, [], [0, 0, 0, 0, 0, 0]), (101, [], [1, 0, 0, 0, 0, 0]), (101, [], [1, 0, 0, 0, 0, 0]), (100, [], (jenc 0)), (100, [], (jenc 1)), (100, [], (jenc (1 * (jlg 0)))), (101, [], [(-1), 0, 0, 0, 0, 0]), (100, [], (jenc 0)), (100, [], (jenc (-1))), (100, [], (jenc ((-1) * (jlg 0)))), (101, [], [0, 0, 0, 0, 0, 0]), (101, [], [0, 0, 0, 0, 0, 0]), (101, [], [(-1), 0, 0, 0, 0, 0]), (100, [], (jenc 0)), (100, [], (jenc (-1))), (100, [], (jenc ((-1) * (jlg 0)))), (101, [], [0, 0, 0, 0, 0, 0]), (101, [], [0, 0, 0, 0, 0, 0]), (101, [], [(-1), 0, 0, 0, 0, 0]), (100, [], (jenc 0)), (100, [], (jenc (-1))), (100, [], (jenc ((-1) * (jlg 0)))), (101, [], [0, 0, 0, 0, 0, 0]), (101, [], [0, 0, 0, 0, 0, 0]), (101, [], [1, 0, 0, 0, 0, 0]), (101, [], [1, 0, 0, 0, 0, 0]), (100, [], (jenc 0)), (100, [], (jenc 1)), (100, [], (jenc (1 * (jlg 0)))), (101, [], [(-1), 0, 0, 0, 0, 0]), (100, [], (jenc 0)), (100, [], (jenc (-1))), (100, [], (jenc ((-1) * (jlg 0)))), (101, [], [0, 0, 0, 0, 0, 0]), (101, [], [0, 0, 0, 0, 0, 0]), (101, [], [(-1), 0, 0, 0, 0, 0]), (100, [], (jenc 0)), (100, [], (jenc (-1))), (100, [], (jenc ((-1) * (jlg 0)))), (101, [], [0, 0, 0, 0, 0, 0]), (101, [], [0, 0, 0, 0, 0, 0]), (101, [], [(-1), 0, 0, 0, 0, 0]), (100, [], (jenc 0)), (100, [], (jenc (-1))), (100, [], (jenc ((-1) * (jlg 0)))), (101, [], [0, 0, 0, 0, 0, 0]), (101, [], [0, 0, 0, 0, 0, 0]), (101, [], [1, 0, 0, 0, 0, 0]), (101, [], [1, 0, 0, 0, 0, 0]), (100, [], (jenc 0)), (100, [], (jenc 1)), (100, [], (jenc (1 * (jlg 0)))), (101, [], [(-1), 0, 0, 0, 0, 0]), (100, [], (jenc 0)), (100, [], (jenc (-1))), (100, [], (jenc ((-1) * (jlg 0)))), (101, [], [0, 0, 0, 0, 0, 0]), (101, [], [0, 0, 0, 0, 0, 0]), (101, [], [(-1), 0, 0, 0, 0, 0]), (100, [], (jenc 0)), (100, [], (jenc (-1))), (100, [], (jenc ((-1) * (jlg 0)))), (101, [], [0, 0, 0, 0, 0, 0]), (101, [], [0, 0, 0, 0, 0, 0]), (101, [], [(-1), 0, 0, 0, 0, 0]), (100, [], (jenc 0)), (100, [], (jenc (-1))), (100, [], (jenc ((-1) * (jlg 0)))), (101, [], [0, 0, 0, 0, 0, 0]), (101, [], [0, 0, 0, 0, 0, 0]), (101, [], [1, 0, 0, 0, 0, 0]), (101, [], [1, 0, 0, 0, 0, 0]), (100, [], (jenc 0)), (100, [], (jenc 1)), (100, [], (jenc (1 * (jlg 0)))), (101, [], [(-1), 0, 0, 0, 0, 0]), (100, [], (jenc 0)), (100, [], (jenc (-1))), (100, [], (jenc ((-1) * (jlg 0)))), (101, [], [0, 0, 0, 0, 0, 0]), (101, [], [0, 0, 0, 0, 0, 0]), (101, [], [(-1), 0, 0, 0, 0, 0]), (100, [], (jenc 0)), (100, [], (jenc (-1))), (100, [], (jenc ((-1) * (jlg 0)))), (101, [], [0, 0, 0, 0, 0, 0]), (101, [], [0, 0, 0, 0, 0, 0]), (101, [], [(-1), 0, 0, 0, 0, 0]), (100, [], (jenc 0)), (100, [], (jenc (-1))), (100, [], (jenc ((-1) * (jlg 0)))), (101, [], [0, 0, 0, 0, 0, 0]), (101, [], [0, 0, 0, 0, 0, 0]), (101, [], [1, 0, 0, 0, 0, 0]), (101, [], [1, 0, 0, 0, 0, 0]), (100, [], (jenc 0)), (100, [], (jenc 1)), (100, [], (jenc (1 * (jlg 0)))), (101, [], [(-1), 0, 0, 0, 0, 0]), (100, [], (jenc 0)), (100, [], (jenc (-1))), (100, [], (jenc ((-1) * (jlg 0)))), (101, [], [0, 0, 0, 0, 0, 0]), (101, [], [0, 0, 0, 0, 0, 0]), (101, [], [(-1), 0, 0, 0, 0, 0]), (100, [], (jenc 0)), (100, [], (jenc (-1))), (100, [], (jenc ((-1) * (jlg 0)))), (101, [], [0, 0, 0, 0, 0, 0]), (101, [], [0, 0, 0, 0, 0, 0]), (101, [], [(-1), 0, 0, 0, 0, 0]), (100, [], (jenc 0)), (100, [], (jenc (-1))), (100, [], (jenc ((-1) * (jlg 0)))), (101, [], [0, 0, 0, 0, 0, 0]), (101, [], [0, 0, 0, 0, 0, 0]), (101, [], [1, 0, 0, 0, 0, 0]), (101, [], [1, 0, 0, 0, 0, 0]), (100, [], (jenc 0)), (100, [], (jenc 1)), (100, [], (jenc (1 * (jlg 0)))), (101, [], [(-1), 0, 0, 0, 0, 0]), (100, [], (jenc 0)), (100, [], (jenc (-1))), (100, [], (jenc ((-1) * (jlg 0))))]
def jpS_599 : List JC := [jzS_244, (100, [], jS0), jgh, jgh, jgh, jgh, (130, [], [16, 17, 18, 19, 20, 21]), (101, [], [0, 0, 0, 0, 0, 0]), jgh, jgh, jgh, jgh, jgh, jgh, jgh, jgh, (100, [], (jenc (jlg 0))), (100, [], (jenc (jlg 1))), (100, [], (jenc (jlg 2))), (100, [], (jenc (jlg 3))), (100, [], (jenc (jlg 4))), (100, [], (jenc (jlg 5))), (101, [], [(-1), 0, 0, 0, 0, 0]), (100, [], (jenc 0)), (100, [], (jenc (-1))), (100, [], (jenc ((-1) * (jlg 0)))), (100, [], [1, 0, 0, 0, 0, 0, 1]), (101, [], [(-1), 0, 0, 0, 0, 0]), (100, [], (jenc 0)), (100, [], (jenc (-1))), (100, [], (jenc ((-1) * (jlg 0)))), (100, [], [1, 0, 0, 0, 0, 0, 1]), (101, [], [(-1), 0, 0, 0, 0, 0]), (100, [], (jenc 0)), (100, [], (jenc (-1))), (100, [], (jenc ((-1) * (jlg 0)))), (100, [], [1, 0, 0, 0, 0, 0, 1]), (101, [], [(-1), 0, 0, 0, 0, 0]), (100, [], (jenc 0)), (100, [], (jenc (-1))), (100, [], (jenc ((-1) * (jlg 0)))), (100, [], [1, 0, 0, 0, 0, 0, 1]), (101, [], [0, 0, 0, 0, 0, 0]), (101, [], [0, 0, 0, 0, 0, 0]), (101, [], [(-1), 0, 0, 0, 0, 0]), (100, [], (jenc 0)), (100, [], (jenc (-1))), (100, [], (jenc ((-1) * (jlg 0)))), (101, [], [0, 0, 0, 0, 0, 0]), (101, [], [0, 0, 0, 0, 0, 0]), (101, [], [(-1), 0, 0, 0, 0, 0]), (100, [], (jenc 0)), (100, [], (jenc (-1))), (100, [], (jenc ((-1) * (jlg 0)))), (101, [], [0, 0, 0, 0, 0, 0]), (101, [], [0, 0, 0, 0, 0, 0]), (101, [], [1, 0, 0, 0, 0, 0]), (101, [], [1, 0, 0, 0, 0, 0]), (100, [], (jenc 0)), (100, [], (jenc 1)), (100, [], (jenc (1 * (jlg 0)))), (101, [], [(-1), 0, 0, 0, 0, 0]), (100, [], (jenc 0)), (100, [], (jenc (-1))), (100, [], (jenc ((-1) * (jlg 0)))), (101, [], [0, 0, 0, 0, 0, 0]), (101, [], [0, 0, 0, 0, 0, 0]), (101, [], [(-1), 0, 0, 0, 0, 0]), (100, [], (jenc 0)), (100, [], (jenc (-1))), (100, [], (jenc ((-1) * (jlg 0)))), (101, [], [0, 0, 0, 0, 0, 0]), (101, [], [0, 0, 0, 0, 0, 0]), (101, [], [(-1), 0, 0, 0, 0, 0]), (100, [], (jenc 0)), (100, [], (jenc (-1))), (100, [], (jenc ((-1) * (jlg 0)))), (101, [], [0, 0, 0, 0, 0, 0]), (101, [], [0, 0, 0, 0, 0, 0]), (101, [], [1, 0, 0, 0, 0, 0]), (101, [], [1, 0, 0, 0, 0, 0]), (100, [], (jenc 0)), (100, [], (jenc 1)), (100, [], (jenc (1 * (jlg 0)))), (101, [], [(-1), 0, 0, 0, 0, 0]), (100, [], (jenc 0)), (100, [], (jenc (-1))), (100, [], (jenc ((-1) * (jlg 0)))), (101, [], [0, 0, 0, 0, 0, 0]), (101, [], [0, 0, 0, 0, 0, 0]), (101, [], [(-1), 0, 0, 0, 0, 0]), (100, [], (jenc 0)), (100, [], (jenc (-1))), (100, [], (jenc ((-1) * (jlg 0)))), (101, [], [0, 0, 0, 0, 0, 0]), (101, [], [0, 0, 0, 0, 0, 0]), (101, [], [(-1), 0, 0, 0, 0, 0]), (100, [], (jenc 0)), (100, [], (jenc (-1))), (100, [], (jenc ((-1) * (jlg 0)))), (101, [], [0, 0, 0, 0, 0, 0]), (101, [], [0, 0, 0, 0, 0, 0]), (101, [], [1, 0, 0, 0, 0, 0]), (101, [], [1, 0, 0, 0, 0, 0]), (100, [], (jenc 0)), (100, [], (jenc 1)), (100, [], (jenc (1 * (jlg 0)))), (101, [], [(-1), 0, 0, 0, 0, 0]), (100, [], (jenc 0)), (100, [], (jenc (-1))), (100, [], (jenc ((-1) * (jlg 0)))), (101, [], [0, 0, 0, 0, 0, 0]), (101, [], [0, 0, 0, 0, 0, 0]), (101, [], [(-1), 0, 0, 0, 0, 0]), (100, [], (jenc 0)), (100, [], (jenc (-1))), (100, [], (jenc ((-1) * (jlg 0)))), (101, [], [0, 0, 0, 0, 0, 0]), (101, [], [0, 0, 0, 0, 0, 0]), (101, [], [(-1), 0, 0, 0, 0, 0]), (100, [], (jenc 0)), (100, [], (jenc (-1))), (100, [], (jenc ((-1) * (jlg 0)))), (101, [], [0, 0, 0, 0, 0, 0]), (101, [], [0, 0, 0, 0, 0, 0]), (101, [], [1, 0, 0, 0, 0, 0]), (101, [], [1, 0, 0, 0, 0, 0]), (100, [], (jenc 0)), (100, [], (jenc 1)), (100, [], (jenc (1 * (jlg 0)))), (101, [], [(-1), 0, 0, 0, 0, 0]), (100, [], (jenc 0)), (100, [], (jenc (-1))), (100, [], (jenc ((-1) * (jlg 0)))), (101, [], [0, 0, 0, 0, 0, 0]), (101, [], [0, 0, 0, 0, 0, 0]), (101, [], [(-1), 0, 0, 0, 0, 0]), (100, [], (jenc 0)), (100, [], (jenc (-1))), (100, [], (jenc ((-1) * (jlg 0)))), (101, [], [0, 0, 0, 0, 0, 0]), (101, [], [0, 0, 0, 0, 0, 0]), (101, [], [(-1), 0, 0, 0, 0, 0]), (100, [], (jenc 0)), (100, [], (jenc (-1))), (100, [], (jenc ((-1) * (jlg 0)))), (101, [], [0, 0, 0, 0, 0, 0]), (101, [], [0, 0, 0, 0, 0, 0]), (101, [], [1, 0, 0, 0, 0, 0]), (101, [], [1, 0, 0, 0, 0, 0]), (100, [], (jenc 0)), (100, [], (jenc 1)), (100, [], (jenc (1 * (jlg 0)))), (101, [], [(-1), 0, 0, 0, 0, 0]), (100, [], (jenc 0)), (100, [], (jenc (-1))), (100, [], (jenc ((-1) * (jlg 0)))), (101, [], [0, 0, 0, 0, 0, 0]), (101, [], [0, 0, 0, 0, 0, 0]), (101, [], [(-1), 0, 0, 0, 0, 0]), (100, [], (jenc 0)), (100, [], (jenc (-1))), (100, [], (jenc ((-1) * (jlg 0)))), (101, [], [0, 0, 0, 0, 0, 0]), (101, [], [0, 0, 0, 0, 0, 0]), (101, [], [(-1), 0, 0, 0, 0, 0]), (100, [], (jenc 0)), (100, [], (jenc (-1))), (100, [], (jenc ((-1) * (jlg 0)))), (101, [], [0, 0, 0, 0, 0, 0]), (101, [], [0, 0, 0, 0, 0, 0]), (101, [], [1, 0, 0, 0, 0, 0]), (101, [], [1, 0, 0, 0, 0, 0]), (100, [], (jenc 0)), (100, [], (jenc 1)), (100, [], (jenc (1 * (jlg 0)))), (101, [], [(-1), 0, 0, 0, 0, 0]), (100, [], (jenc 0)), (100, [], (jenc (-1))), (100, [], (jenc ((-1) * (jlg 0)))), (101, [], [0, 0, 0, 0, 0, 0]), (101, [], [0, 0, 0, 0, 0, 0]), (101, [], [(-1), 0, 0, 0, 0, 0]), (100, [], (jenc 0)), (100, [], (jenc (-1))), (100, [], (jenc ((-1) * (jlg 0)))), (101, [], [0, 0, 0, 0, 0, 0]), (101, [], [0, 0, 0, 0, 0, 0]), (101, [], [(-1), 0, 0, 0, 0, 0]), (100, [], (jenc 0)), (100, [], (jenc (-1))), (100, [], (jenc ((-1) * (jlg 0)))), (101, [], [0, 0, 0, 0, 0, 0]), (101, [], [0, 0, 0, 0, 0, 0]), (101, [], [1, 0, 0, 0, 0, 0]), (101, [], [1, 0, 0, 0, 0, 0]), (100, [], (jenc 0)), (100, [], (jenc 1)), (100, [], (jenc (1 * (jlg 0)))), (101, [], [(-1), 0, 0, 0, 0, 0]), (100, [], (jenc 0)), (100, [], (jenc (-1))), (100, [], (jenc ((-1) * (jlg 0)))), (101, [], [0, 0, 0, 0, 0, 0]), (101, [], [0, 0, 0, 0, 0, 0]), (101, [], [(-1), 0, 0, 0, 0, 0]), (100, [], (jenc 0)), (100, [], (jenc (-1))), (100, [], (jenc ((-1) * (jlg 0)))), (101, [], [0, 0, 0, 0, 0, 0]), (101, [], [0, 0, 0, 0, 0, 0]), (101, [], [(-1), 0, 0, 0, 0, 0]), (100, [], (jenc 0)), (100, [], (jenc (-1))), (100, [], (jenc ((-1) * (jlg 0)))), (101, [], [0, 0, 0, 0, 0, 0]), (101, [], [0, 0, 0, 0, 0, 0]), (101, [], [1, 0, 0, 0, 0, 0]), (101, [], [1, 0, 0, 0, 0, 0]), (100, [], (jenc 0)), (100, [], (jenc 1)), (100, [], (jenc (1 * (jlg 0)))), (101, [], [(-1), 0, 0, 0, 0, 0]), (100, [], (jenc 0)), (100, [], (jenc (-1))), (100, [], (jenc ((-1) * (jlg 0)))), jgh]
def jpS_600 : List JC := [(101, [], [(-1), 0, 0, 0, 0, 0]), (100, [], (jenc 0)), (100, [], (jenc (-1))), (100, [], (jenc ((-1) * (jlg 0)))), (100, [], [1, 0, 0, 0, 0, 0, 1]), (101, [], [(-1), 0, 0, 0, 0, 0]), (100, [], (jenc 0)), (100, [], (jenc (-1))), (100, [], (jenc ((-1) * (jlg 0)))), (100, [], [1, 0, 0, 0, 0, 0, 1]), (101, [], [(-1), 0, 0, 0, 0, 0]), (100, [], (jenc 0)), (100, [], (jenc (-1))), (100, [], (jenc ((-1) * (jlg 0)))), (100, [], [1, 0, 0, 0, 0, 0, 1]), (101, [], [(-1), 0, 0, 0, 0, 0]), (100, [], (jenc 0)), (100, [], (jenc (-1))), (100, [], (jenc ((-1) * (jlg 0)))), (100, [], [1, 0, 0, 0, 0, 0, 1]), (101, [], [0, 0, 0, 0, 0, 0]), (101, [], [0, 0, 0, 0, 0, 0]), (101, [], [(-1), 0, 0, 0, 0, 0]), (100, [], (jenc 0)), (100, [], (jenc (-1))), (100, [], (jenc ((-1) * (jlg 0)))), (101, [], [0, 0, 0, 0, 0, 0]), (101, [], [0, 0, 0, 0, 0, 0]), (101, [], [(-1), 0, 0, 0, 0, 0]), (100, [], (jenc 0)), (100, [], (jenc (-1))), (100, [], (jenc ((-1) * (jlg 0)))), (101, [], [0, 0, 0, 0, 0, 0]), (101, [], [0, 0, 0, 0, 0, 0]), (101, [], [1, 0, 0, 0, 0, 0]), (101, [], [1, 0, 0, 0, 0, 0]), (100, [], (jenc 0)), (100, [], (jenc 1)), (100, [], (jenc (1 * (jlg 0)))), (101, [], [(-1), 0, 0, 0, 0, 0]), (100, [], (jenc 0)), (100, [], (jenc (-1))), (100, [], (jenc ((-1) * (jlg 0)))), (101, [], [0, 0, 0, 0, 0, 0]), (101, [], [0, 0, 0, 0, 0, 0]), (101, [], [(-1), 0, 0, 0, 0, 0]), (100, [], (jenc 0)), (100, [], (jenc (-1))), (100, [], (jenc ((-1) * (jlg 0)))), (101, [], [0, 0, 0, 0, 0, 0]), (101, [], [0, 0, 0, 0, 0, 0]), (101, [], [(-1), 0, 0, 0, 0, 0]), (100, [], (jenc 0)), (100, [], (jenc (-1))), (100, [], (jenc ((-1) * (jlg 0)))), (101, [], [0, 0, 0, 0, 0, 0]), (101, [], [0, 0, 0, 0, 0, 0]), (101, [], [1, 0, 0, 0, 0, 0]), (101, [], [1, 0, 0, 0, 0, 0]), (100, [], (jenc 0)), (100, [], (jenc 1)), (100, [], (jenc (1 * (jlg 0)))), (101, [], [(-1), 0, 0, 0, 0, 0]), (100, [], (jenc 0)), (100, [], (jenc (-1))), (100, [], (jenc ((-1) * (jlg 0)))), (101, [], [0, 0, 0, 0, 0, 0]), (101, [], [0, 0, 0, 0, 0, 0]), (101, [], [(-1), 0, 0, 0, 0, 0]), (100, [], (jenc 0)), (100, [], (jenc (-1))), (100, [], (jenc ((-1) * (jlg 0)))), (101, [], [0, 0, 0, 0, 0, 0]), (101, [], [0, 0, 0, 0, 0, 0]), (101, [], [(-1), 0, 0, 0, 0, 0]), (100, [], (jenc 0)), (100, [], (jenc (-1))), (100, [], (jenc ((-1) * (jlg 0)))), (101, [], [0, 0, 0, 0, 0, 0]), (101, [], [0, 0, 0, 0, 0, 0]), (101, [], [1, 0, 0, 0, 0, 0]), (101, [], [1, 0, 0, 0, 0, 0]), (100, [], (jenc 0)), (100, [], (jenc 1)), (100, [], (jenc (1 * (jlg 0)))), (101, [], [(-1), 0, 0, 0, 0, 0]), (100, [], (jenc 0)), (100, [], (jenc (-1))), (100, [], (jenc ((-1) * (jlg 0)))), (101, [], [0, 0, 0, 0, 0, 0]), (101, [], [0, 0, 0, 0, 0, 0]), (101, [], [(-1), 0, 0, 0, 0, 0]), (100, [], (jenc 0)), (100, [], (jenc (-1))), (100, [], (jenc ((-1) * (jlg 0)))), (101, [], [0, 0, 0, 0, 0, 0]), (101, [], [0, 0, 0, 0, 0, 0]), (101, [], [(-1), 0, 0, 0, 0, 0]), (100, [], (jenc 0)), (100, [], (jenc (-1))), (100, [], (jenc ((-1) * (jlg 0)))), (101, [], [0, 0, 0, 0, 0, 0]), (101, [], [0, 0, 0, 0, 0, 0]), (101, [], [1, 0, 0, 0, 0, 0]), (101, [], [1, 0, 0, 0, 0, 0]), (100, [], (jenc 0)), (100, [], (jenc 1)), (100, [], (jenc (1 * (jlg 0)))), (101, [], [(-1), 0, 0, 0, 0, 0]), (100, [], (jenc 0)), (100, [], (jenc (-1))), (100, [], (jenc ((-1) * (jlg 0)))), (101, [], [0, 0, 0, 0, 0, 0]), (101, [], [0, 0, 0, 0, 0, 0]), (101, [], [(-1), 0, 0, 0, 0, 0]), (100, [], (jenc 0)), (100, [], (jenc (-1))), (100, [], (jenc ((-1) * (jlg 0)))), (101, [], [0, 0, 0, 0, 0, 0]), (101, [], [0, 0, 0, 0, 0, 0]), (101, [], [(-1), 0, 0, 0, 0, 0]), (100, [], (jenc 0)), (100, [], (jenc (-1))), (100, [], (jenc ((-1) * (jlg 0)))), (101, [], [0, 0, 0, 0, 0, 0]), (101, [], [0, 0, 0, 0, 0, 0]), (101, [], [1, 0, 0, 0, 0, 0]), (101, [], [1, 0, 0, 0, 0, 0]), (100, [], (jenc 0)), (100, [], (jenc 1)), (100, [], (jenc (1 * (jlg 0)))), (101, [], [(-1), 0, 0, 0, 0, 0]), (100, [], (jenc 0)), (100, [], (jenc (-1))), (100, [], (jenc ((-1) * (jlg 0)))), (101, [], [0, 0, 0, 0, 0, 0]), (101, [], [0, 0, 0, 0, 0, 0]), (101, [], [(-1), 0, 0, 0, 0, 0]), (100, [], (jenc 0)), (100, [], (jenc (-1))), (100, [], (jenc ((-1) * (jlg 0)))), (101, [], [0, 0, 0, 0, 0, 0]), (101, [], [0, 0, 0, 0, 0, 0]), (101, [], [(-1), 0, 0, 0, 0, 0]), (100, [], (jenc 0)), (100, [], (jenc (-1))), (100, [], (jenc ((-1) * (jlg 0)))), (101, [], [0, 0, 0, 0, 0, 0]), (101, [], [0, 0, 0, 0, 0, 0]), (101, [], [1, 0, 0, 0, 0, 0]), (101, [], [1, 0, 0, 0, 0, 0]), (100, [], (jenc 0)), (100, [], (jenc 1)), (100, [], (jenc (1 * (jlg 0)))), (101, [], [(-1), 0, 0, 0, 0, 0]), (100, [], (jenc 0)), (100, [], (jenc (-1))), (100, [], (jenc ((-1) * (jlg 0)))), (101, [], [0, 0, 0, 0, 0, 0]), (101, [], [0, 0, 0, 0, 0, 0]), (101, [], [(-1), 0, 0, 0, 0, 0]), (100, [], (jenc 0)), (100, [], (jenc (-1))), (100, [], (jenc ((-1) * (jlg 0)))), (101, [], [0, 0, 0, 0, 0, 0]), (101, [], [0, 0, 0, 0, 0, 0]), (101, [], [(-1), 0, 0, 0, 0, 0]), (100, [], (jenc 0)), (100, [], (jenc (-1))), (100, [], (jenc ((-1) * (jlg 0)))), (101, [], [0, 0, 0, 0, 0, 0]), (101, [], [0, 0, 0, 0, 0, 0]), (101, [], [1, 0, 0, 0, 0, 0]), (101, [], [1, 0, 0, 0, 0, 0]), (100, [], (jenc 0)), (100, [], (jenc 1)), (100, [], (jenc (1 * (jlg 0)))), (101, [], [(-1), 0, 0, 0, 0, 0]), (100, [], (jenc 0)), (100, [], (jenc (-1))), (100, [], (jenc ((-1) * (jlg 0)))), (101, [], [0, 0, 0, 0, 0, 0]), (101, [], [0, 0, 0, 0, 0, 0]), (101, [], [(-1), 0, 0, 0, 0, 0]), (100, [], (jenc 0)), (100, [], (jenc (-1))), (100, [], (jenc ((-1) * (jlg 0)))), (101, [], [0, 0, 0, 0, 0, 0]), (101, [], [0, 0, 0, 0, 0, 0]), (101, [], [(-1), 0, 0, 0, 0, 0]), (100, [], (jenc 0)), (100, [], (jenc (-1))), (100, [], (jenc ((-1) * (jlg 0)))), (101, [], [0, 0, 0, 0, 0, 0]), (101, [], [0, 0, 0, 0, 0, 0]), (101, [], [1, 0, 0, 0, 0, 0]), (101, [], [1, 0, 0, 0, 0, 0]), (100, [], (jenc 0)), (100, [], (jenc 1)), (100, [], (jenc (1 * (jlg 0)))), (101, [], [(-1), 0, 0, 0, 0, 0]), (100, [], (jenc 0)), (100, [], (jenc (-1))), (100, [], (jenc ((-1) * (jlg 0)))), jgh]
set_option maxRecDepth 100000 in
theorem jS_321_243 {xs : List Int} {d : Nat} : jT xs (d + 10) 321 22 0 [(0, (4, 0))] [] jpS_586 22525 1166554 (fun k v hsN => k = 0 ∧ v = (0, 0) ∧ hsN = jpS_586 ++ jpS_600) := by
  refine jT_advK 13 (pcN := 17) (LN := [(2, (0, 0)), (1, (0, 0)), (0, (4, 0))]) (stN := [(0, 0), (4, 0), (0, 0)]) (hsN := jpS_586) (c1 := 0) (s1 := 0) (c2 := 22525) (s2 := 1166554) (by decide +kernel) ?_ (by omega) (by omega)
  refine jT_fB [0, 1, 2, 3, 4, 5, 6, 7, 8, 9, 10, 11, 12, 13, 14, 15, 16, 17, 18, 19, 20, 21] 22 (y := 322) (pcN := 20) (dC := 5) (bc1 := 5) (bc2 := 181) (c1 := 22520) (c2 := 1166373) (as := [(4, 0), (0, 0)]) (asC := [(4, 0), (0, 0)]) (LN := [(2, (0, 0)), (1, (0, 0)), (0, (4, 0))]) (stN := [(0, 0)]) (hsC := jpS_269) (hsD := jpS_273) (v := (0, 1)) (st2 := [(0, 1), (0, 0)]) (hs2 := jpS_587) (jS_322_96 (d := 0)) (by rfl) (by rfl) (by decide +kernel) (by rfl) (by rfl) (by omega) (by omega) (by omega) (by omega) rfl (by decide +kernel) ?_
  refine jT_advK 13 (pcN := 17) (LN := [(2, (0, 1)), (1, (0, 0)), (0, (4, 0))]) (stN := [(0, 1), (4, 0), (0, 0)]) (hsN := jpS_587) (c1 := 0) (s1 := 0) (c2 := 22520) (s2 := 1166373) (by decide +kernel) ?_ (by omega) (by omega)
  refine jT_fA [0, 1, 2, 3, 4, 5, 6, 7, 8, 9, 10, 11, 12, 13, 14, 15, 16, 17, 18, 19, 20, 21] 27 (y := 322) (pcN := 20) (dC := 5) (bc1 := 5) (bc2 := 181) (c1 := 22515) (c2 := 1166192) (as := [(4, 0), (0, 1)]) (asC := [(4, 0), (0, 1)]) (LN := [(2, (0, 1)), (1, (0, 0)), (0, (4, 0))]) (stN := [(0, 0)]) (hsC := jpS_274) (ex := jpS_275) (v := (0, 1)) (st2 := [(0, 1), (0, 0)]) (hs2 := jpS_588) (jS_322_103 (d := 0)) (by rfl) (by rfl) (by decide +kernel) (by rfl) (by rfl) (by omega) (by omega) (by omega) (by omega) rfl (by decide +kernel) ?_
  refine jT_advK 13 (pcN := 17) (LN := [(2, (0, 2)), (1, (0, 0)), (0, (4, 0))]) (stN := [(0, 2), (4, 0), (0, 0)]) (hsN := jpS_588) (c1 := 0) (s1 := 0) (c2 := 22515) (s2 := 1166192) (by decide +kernel) ?_ (by omega) (by omega)
  refine jT_fA [0, 1, 2, 3, 4, 5, 6, 7, 8, 9, 10, 11, 12, 13, 14, 15, 16, 17, 18, 19, 20, 21] 32 (y := 322) (pcN := 20) (dC := 5) (bc1 := 5) (bc2 := 181) (c1 := 22510) (c2 := 1166011) (as := [(4, 0), (0, 2)]) (asC := [(4, 0), (0, 2)]) (LN := [(2, (0, 2)), (1, (0, 0)), (0, (4, 0))]) (stN := [(0, 0)]) (hsC := jpS_274) (ex := jpS_275) (v := (0, 1)) (st2 := [(0, 1), (0, 0)]) (hs2 := jpS_589) (jS_322_109 (d := 0)) (by rfl) (by rfl) (by decide +kernel) (by rfl) (by rfl) (by omega) (by omega) (by omega) (by omega) rfl (by decide +kernel) ?_
  refine jT_advK 13 (pcN := 17) (LN := [(2, (0, 3)), (1, (0, 0)), (0, (4, 0))]) (stN := [(0, 3), (4, 0), (0, 0)]) (hsN := jpS_589) (c1 := 0) (s1 := 0) (c2 := 22510) (s2 := 1166011) (by decide +kernel) ?_ (by omega) (by omega)
  refine jT_fA [0, 1, 2, 3, 4, 5, 6, 7, 8, 9, 10, 11, 12, 13, 14, 15, 16, 17, 18, 19, 20, 21] 37 (y := 322) (pcN := 20) (dC := 5) (bc1 := 5) (bc2 := 181) (c1 := 22505) (c2 := 1165830) (as := [(4, 0), (0, 3)]) (asC := [(4, 0), (0, 3)]) (LN := [(2, (0, 3)), (1, (0, 0)), (0, (4, 0))]) (stN := [(0, 0)]) (hsC := jpS_274) (ex := jpS_275) (v := (0, 1)) (st2 := [(0, 1), (0, 0)]) (hs2 := jpS_590) (jS_322_115 (d := 0)) (by rfl) (by rfl) (by decide +kernel) (by rfl) (by rfl) (by omega) (by omega) (by omega) (by omega) rfl (by decide +kernel) ?_
  refine jT_advK 18 (pcN := 47) (LN := [(2, (0, 0)), (1, (0, 0)), (0, (4, 0))]) (stN := [(0, 0), (4, 0), (0, 0)]) (hsN := jpS_590) (c1 := 0) (s1 := 0) (c2 := 22505) (s2 := 1165830) (by decide +kernel) ?_ (by omega) (by omega)
  refine jT_fB [0, 1, 2, 3, 4, 5, 6, 7, 8, 9, 10, 11, 12, 13, 14, 15, 16, 17, 18, 19, 20, 21] 42 (y := 323) (pcN := 50) (dC := 8) (bc1 := 23) (bc2 := 738) (c1 := 22482) (c2 := 1165092) (as := [(4, 0), (0, 0)]) (asC := [(4, 0), (0, 0)]) (LN := [(2, (0, 0)), (1, (0, 0)), (0, (4, 0))]) (stN := [(0, 0)]) (hsC := jpS_274) (hsD := jpS_310) (v := (0, 1)) (st2 := [(0, 1), (0, 0)]) (hs2 := jpS_591) (jS_323_133 (d := 0)) (by rfl) (by rfl) (by decide +kernel) (by rfl) (by rfl) (by omega) (by omega) (by omega) (by omega) rfl (by decide +kernel) ?_
  refine jT_advK 13 (pcN := 47) (LN := [(2, (0, 1)), (1, (0, 0)), (0, (4, 0))]) (stN := [(0, 1), (4, 0), (0, 0)]) (hsN := jpS_591) (c1 := 0) (s1 := 0) (c2 := 22482) (s2 := 1165092) (by decide +kernel) ?_ (by omega) (by omega)
  refine jT_fA [0, 1, 2, 3, 4, 5, 6, 7, 8, 9, 10, 11, 12, 13, 14, 15, 16, 17, 18, 19, 20, 21] 65 (y := 323) (pcN := 50) (dC := 8) (bc1 := 23) (bc2 := 738) (c1 := 22459) (c2 := 1164354) (as := [(4, 0), (0, 1)]) (asC := [(4, 0), (0, 1)]) (LN := [(2, (0, 1)), (1, (0, 0)), (0, (4, 0))]) (stN := [(0, 0)]) (hsC := jpS_269) (ex := jpS_311) (v := (0, 1)) (st2 := [(0, 1), (0, 0)]) (hs2 := jpS_592) (jS_323_136 (d := 0)) (by rfl) (by rfl) (by decide +kernel) (by rfl) (by rfl) (by omega) (by omega) (by omega) (by omega) rfl (by decide +kernel) ?_
  refine jT_advK 13 (pcN := 47) (LN := [(2, (0, 2)), (1, (0, 0)), (0, (4, 0))]) (stN := [(0, 2), (4, 0), (0, 0)]) (hsN := jpS_592) (c1 := 0) (s1 := 0) (c2 := 22459) (s2 := 1164354) (by decide +kernel) ?_ (by omega) (by omega)
  refine jT_fA [0, 1, 2, 3, 4, 5, 6, 7, 8, 9, 10, 11, 12, 13, 14, 15, 16, 17, 18, 19, 20, 21] 88 (y := 323) (pcN := 50) (dC := 8) (bc1 := 23) (bc2 := 738) (c1 := 22436) (c2 := 1163616) (as := [(4, 0), (0, 2)]) (asC := [(4, 0), (0, 2)]) (LN := [(2, (0, 2)), (1, (0, 0)), (0, (4, 0))]) (stN := [(0, 0)]) (hsC := jpS_269) (ex := jpS_311) (v := (0, 1)) (st2 := [(0, 1), (0, 0)]) (hs2 := jpS_593) (jS_323_139 (d := 0)) (by rfl) (by rfl) (by decide +kernel) (by rfl) (by rfl) (by omega) (by omega) (by omega) (by omega) rfl (by decide +kernel) ?_
  refine jT_advK 13 (pcN := 47) (LN := [(2, (0, 3)), (1, (0, 0)), (0, (4, 0))]) (stN := [(0, 3), (4, 0), (0, 0)]) (hsN := jpS_593) (c1 := 0) (s1 := 0) (c2 := 22436) (s2 := 1163616) (by decide +kernel) ?_ (by omega) (by omega)
  refine jT_fA [0, 1, 2, 3, 4, 5, 6, 7, 8, 9, 10, 11, 12, 13, 14, 15, 16, 17, 18, 19, 20, 21] 111 (y := 323) (pcN := 50) (dC := 8) (bc1 := 23) (bc2 := 738) (c1 := 22413) (c2 := 1162878) (as := [(4, 0), (0, 3)]) (asC := [(4, 0), (0, 3)]) (LN := [(2, (0, 3)), (1, (0, 0)), (0, (4, 0))]) (stN := [(0, 0)]) (hsC := jpS_269) (ex := jpS_311) (v := (0, 1)) (st2 := [(0, 1), (0, 0)]) (hs2 := jpS_594) (jS_323_142 (d := 0)) (by rfl) (by rfl) (by decide +kernel) (by rfl) (by rfl) (by omega) (by omega) (by omega) (by omega) rfl (by decide +kernel) ?_
  refine jT_advK 13 (pcN := 47) (LN := [(2, (0, 4)), (1, (0, 0)), (0, (4, 0))]) (stN := [(0, 4), (4, 0), (0, 0)]) (hsN := jpS_594) (c1 := 0) (s1 := 0) (c2 := 22413) (s2 := 1162878) (by decide +kernel) ?_ (by omega) (by omega)
  refine jT_fA [0, 1, 2, 3, 4, 5, 6, 7, 8, 9, 10, 11, 12, 13, 14, 15, 16, 17, 18, 19, 20, 21] 134 (y := 323) (pcN := 50) (dC := 8) (bc1 := 23) (bc2 := 738) (c1 := 22390) (c2 := 1162140) (as := [(4, 0), (0, 4)]) (asC := [(4, 0), (0, 4)]) (LN := [(2, (0, 4)), (1, (0, 0)), (0, (4, 0))]) (stN := [(0, 0)]) (hsC := jpS_269) (ex := jpS_311) (v := (0, 1)) (st2 := [(0, 1), (0, 0)]) (hs2 := jpS_595) (jS_323_145 (d := 0)) (by rfl) (by rfl) (by decide +kernel) (by rfl) (by rfl) (by omega) (by omega) (by omega) (by omega) rfl (by decide +kernel) ?_
  refine jT_advK 13 (pcN := 47) (LN := [(2, (0, 5)), (1, (0, 0)), (0, (4, 0))]) (stN := [(0, 5), (4, 0), (0, 0)]) (hsN := jpS_595) (c1 := 0) (s1 := 0) (c2 := 22390) (s2 := 1162140) (by decide +kernel) ?_ (by omega) (by omega)
  refine jT_fA [0, 1, 2, 3, 4, 5, 6, 7, 8, 9, 10, 11, 12, 13, 14, 15, 16, 17, 18, 19, 20, 21] 157 (y := 323) (pcN := 50) (dC := 8) (bc1 := 23) (bc2 := 738) (c1 := 22367) (c2 := 1161402) (as := [(4, 0), (0, 5)]) (asC := [(4, 0), (0, 5)]) (LN := [(2, (0, 5)), (1, (0, 0)), (0, (4, 0))]) (stN := [(0, 0)]) (hsC := jpS_269) (ex := jpS_311) (v := (0, 1)) (st2 := [(0, 1), (0, 0)]) (hs2 := jpS_596) (jS_323_148 (d := 0)) (by rfl) (by rfl) (by decide +kernel) (by rfl) (by rfl) (by omega) (by omega) (by omega) (by omega) rfl (by decide +kernel) ?_
  refine jT_advK 13 (pcN := 47) (LN := [(2, (0, 6)), (1, (0, 0)), (0, (4, 0))]) (stN := [(0, 6), (4, 0), (0, 0)]) (hsN := jpS_596) (c1 := 0) (s1 := 0) (c2 := 22367) (s2 := 1161402) (by decide +kernel) ?_ (by omega) (by omega)
  refine jT_fA [0, 1, 2, 3, 4, 5, 6, 7, 8, 9, 10, 11, 12, 13, 14, 15, 16, 17, 18, 19, 20, 21] 180 (y := 323) (pcN := 50) (dC := 8) (bc1 := 23) (bc2 := 738) (c1 := 22344) (c2 := 1160664) (as := [(4, 0), (0, 6)]) (asC := [(4, 0), (0, 6)]) (LN := [(2, (0, 6)), (1, (0, 0)), (0, (4, 0))]) (stN := [(0, 0)]) (hsC := jpS_269) (ex := jpS_311) (v := (0, 1)) (st2 := [(0, 1), (0, 0)]) (hs2 := jpS_597) (jS_323_151 (d := 0)) (by rfl) (by rfl) (by decide +kernel) (by rfl) (by rfl) (by omega) (by omega) (by omega) (by omega) rfl (by decide +kernel) ?_
  refine jT_advK 13 (pcN := 47) (LN := [(2, (0, 7)), (1, (0, 0)), (0, (4, 0))]) (stN := [(0, 7), (4, 0), (0, 0)]) (hsN := jpS_597) (c1 := 0) (s1 := 0) (c2 := 22344) (s2 := 1160664) (by decide +kernel) ?_ (by omega) (by omega)
  refine jT_fA [0, 1, 2, 3, 4, 5, 6, 7, 8, 9, 10, 11, 12, 13, 14, 15, 16, 17, 18, 19, 20, 21] 203 (y := 323) (pcN := 50) (dC := 8) (bc1 := 23) (bc2 := 738) (c1 := 22321) (c2 := 1159926) (as := [(4, 0), (0, 7)]) (asC := [(4, 0), (0, 7)]) (LN := [(2, (0, 7)), (1, (0, 0)), (0, (4, 0))]) (stN := [(0, 0)]) (hsC := jpS_269) (ex := jpS_311) (v := (0, 1)) (st2 := [(0, 1), (0, 0)]) (hs2 := jpS_598) (jS_323_154 (d := 0)) (by rfl) (by rfl) (by decide +kernel) (by rfl) (by rfl) (by omega) (by omega) (by omega) (by omega) rfl (by decide +kernel) ?_
  refine jT_advK 12 (pcN := 68) (LN := [(2, (0, 8)), (1, (0, 0)), (0, (4, 0))]) (stN := [(4, 0), (0, 0)]) (hsN := jpS_598) (c1 := 0) (s1 := 0) (c2 := 22321) (s2 := 1159926) (by decide +kernel) ?_ (by omega) (by omega)
  refine jT_fA [0, 1, 2, 3, 4, 5, 6, 7, 8, 9, 10, 11, 12, 13, 14, 15, 16, 17, 18, 19, 20, 21] 226 (y := 324) (pcN := 71) (dC := 9) (bc1 := 22321) (bc2 := 1159926) (c1 := 0) (c2 := 0) (as := [(4, 0)]) (asC := [(4, 0)]) (LN := [(2, (0, 8)), (1, (0, 0)), (0, (4, 0))]) (stN := [(0, 0)]) (hsC := jpS_585) (ex := [jgh]) (v := (0, 1)) (st2 := [(0, 1), (0, 0)]) (hs2 := jpS_599) (jS_324_241 (d := 0)) (by rfl) (by rfl) (by decide +kernel) (by rfl) (by rfl) (by omega) (by omega) (by omega) (by omega) rfl (by decide +kernel) ?_
  refine jT_advK 4 (pcN := 80) (LN := [(2, (0, 8)), (1, (0, 0)), (0, (4, 0))]) (stN := [(0, 0)]) (hsN := jpS_599) (c1 := 0) (s1 := 0) (c2 := 0) (s2 := 0) (by decide +kernel) ?_ (by omega) (by omega)
  exact jT_ret rfl (by decide) (by show 22 ≤ 227; omega) (by omega) (by omega) ⟨rfl, rfl, rfl⟩
theorem jS_47_244 {xs : List Int} {d : Nat} {t u12_0 u12_1 u12_2 u12_3 u12_4 u12_5 : Int} (h_t : 1 ≤ t ∧ t ≤ 60) (g_0 : t - 61 < 0) : jT xs (d + 2) 47 4 0 [(0, (4, 0)), (1, (4, 1)), (2, (0, t))] [] [(8, [(4, 2), (4, 3)], []), (101, [], [u12_0, u12_1, u12_2, u12_3, u12_4, u12_5]), jgh, (101, [], [0, 0, 0, 0, 0, 0])] 0 0 (fun k v hsN => k = 0 ∧ v = (9, 0) ∧ hsN = [(8, [(4, 2), (4, 3)], []), (101, [], [(2 * t + 1) / 2, (((217835587388 * t) / 68719476736) + 1) / 2, (((319123367396 * t) / 68719476736) + 1) / 2, (((385839922510 * t) / 68719476736) + 1) / 2, (((475460661270 * t) / 68719476736) + 1) / 2, (((508584562244 * t) / 68719476736) + 1) / 2]), jgh, (101, [], [0, 0, 0, 0, 0, 0])]) := by
  refine jT_xiconst (k := 0) (pcN := 1) jIS_47_0 rfl ?_
  refine jT_xistore_n (v := (0, 0)) (LN := [(3, (0, 0)), (0, (4, 0)), (1, (4, 1)), (2, (0, t))]) (pcN := 2) jIS_47_1 rfl rfl rfl rfl ?_
  refine jT_xiload_n (v := (0, 0)) (pcN := 3) jIS_47_2 rfl rfl rfl ?_
  refine jT_xbipush (k := 6) (pcN := 5) jIS_47_3 (by decide) rfl ?_
  refine jT_xicF (t := 21) (pcN := 8) jIS_47_5 rfl (by decide +kernel) rfl rfl ?_
  refine jT_xaload_n (v := (4, 0)) (pcN := 9) jIS_47_8 rfl rfl rfl ?_
  refine jT_xgetf (a := 0) (t := 1) (ci := 8) (fi := 1) (c := (8, [(4, 2), (4, 3)], [])) (v := (4, 3)) (pcN := 12) jIS_47_9 rfl rfl rfl rfl rfl rfl rfl ?_
  refine jT_xiload_n (v := (0, 0)) (pcN := 13) jIS_47_12 rfl rfl rfl ?_
  refine jT_xlconst (z := 0) (pcN := 14) jIS_47_13 rfl rfl ?_
  refine jT_adv 1 (pcN := 15) (LN := [(3, (0, 0)), (0, (4, 0)), (1, (4, 1)), (2, (0, t))]) (stN := []) (hsN := [(8, [(4, 2), (4, 3)], []), (101, [], [u12_0, u12_1, u12_2, u12_3, u12_4, u12_5]), jgh, (101, [], [0, 0, 0, 0, 0, 0])]) (c1 := 0) (s1 := 0) (c2 := 0) (s2 := 0) (by exact rfl) ?_ (by omega) (by omega)
  refine jT_xiinc (x := 0) (z := 1) (LN := [(3, (0, 1)), (0, (4, 0)), (1, (4, 1)), (2, (0, t))]) (pcN := 18) jIS_47_15 rfl rfl (by decide) rfl rfl ?_
  refine jT_xgoto (pcN := 2) jIS_47_18 rfl ?_
  refine jT_xiload_n (v := (0, 1)) (pcN := 3) jIS_47_2 rfl rfl rfl ?_
  refine jT_xbipush (k := 6) (pcN := 5) jIS_47_3 (by decide) rfl ?_
  refine jT_xicF (t := 21) (pcN := 8) jIS_47_5 rfl (by decide +kernel) rfl rfl ?_
  refine jT_xaload_n (v := (4, 0)) (pcN := 9) jIS_47_8 rfl rfl rfl ?_
  refine jT_xgetf (a := 0) (t := 1) (ci := 8) (fi := 1) (c := (8, [(4, 2), (4, 3)], [])) (v := (4, 3)) (pcN := 12) jIS_47_9 rfl rfl rfl rfl rfl rfl rfl ?_
  refine jT_xiload_n (v := (0, 1)) (pcN := 13) jIS_47_12 rfl rfl rfl ?_
  refine jT_xlconst (z := 0) (pcN := 14) jIS_47_13 rfl rfl ?_
  refine jT_adv 1 (pcN := 15) (LN := [(3, (0, 1)), (0, (4, 0)), (1, (4, 1)), (2, (0, t))]) (stN := []) (hsN := [(8, [(4, 2), (4, 3)], []), (101, [], [u12_0, u12_1, u12_2, u12_3, u12_4, u12_5]), jgh, (101, [], [0, 0, 0, 0, 0, 0])]) (c1 := 0) (s1 := 0) (c2 := 0) (s2 := 0) (by exact rfl) ?_ (by omega) (by omega)
  refine jT_xiinc (x := 1) (z := 2) (LN := [(3, (0, 2)), (0, (4, 0)), (1, (4, 1)), (2, (0, t))]) (pcN := 18) jIS_47_15 rfl rfl (by decide) rfl rfl ?_
  refine jT_xgoto (pcN := 2) jIS_47_18 rfl ?_
  refine jT_xiload_n (v := (0, 2)) (pcN := 3) jIS_47_2 rfl rfl rfl ?_
  refine jT_xbipush (k := 6) (pcN := 5) jIS_47_3 (by decide) rfl ?_
  refine jT_xicF (t := 21) (pcN := 8) jIS_47_5 rfl (by decide +kernel) rfl rfl ?_
  refine jT_xaload_n (v := (4, 0)) (pcN := 9) jIS_47_8 rfl rfl rfl ?_
  refine jT_xgetf (a := 0) (t := 1) (ci := 8) (fi := 1) (c := (8, [(4, 2), (4, 3)], [])) (v := (4, 3)) (pcN := 12) jIS_47_9 rfl rfl rfl rfl rfl rfl rfl ?_
  refine jT_xiload_n (v := (0, 2)) (pcN := 13) jIS_47_12 rfl rfl rfl ?_
  refine jT_xlconst (z := 0) (pcN := 14) jIS_47_13 rfl rfl ?_
  refine jT_adv 1 (pcN := 15) (LN := [(3, (0, 2)), (0, (4, 0)), (1, (4, 1)), (2, (0, t))]) (stN := []) (hsN := [(8, [(4, 2), (4, 3)], []), (101, [], [u12_0, u12_1, u12_2, u12_3, u12_4, u12_5]), jgh, (101, [], [0, 0, 0, 0, 0, 0])]) (c1 := 0) (s1 := 0) (c2 := 0) (s2 := 0) (by exact rfl) ?_ (by omega) (by omega)
  refine jT_xiinc (x := 2) (z := 3) (LN := [(3, (0, 3)), (0, (4, 0)), (1, (4, 1)), (2, (0, t))]) (pcN := 18) jIS_47_15 rfl rfl (by decide) rfl rfl ?_
  refine jT_xgoto (pcN := 2) jIS_47_18 rfl ?_
  refine jT_xiload_n (v := (0, 3)) (pcN := 3) jIS_47_2 rfl rfl rfl ?_
  refine jT_xbipush (k := 6) (pcN := 5) jIS_47_3 (by decide) rfl ?_
  refine jT_xicF (t := 21) (pcN := 8) jIS_47_5 rfl (by decide +kernel) rfl rfl ?_
  refine jT_xaload_n (v := (4, 0)) (pcN := 9) jIS_47_8 rfl rfl rfl ?_
  refine jT_xgetf (a := 0) (t := 1) (ci := 8) (fi := 1) (c := (8, [(4, 2), (4, 3)], [])) (v := (4, 3)) (pcN := 12) jIS_47_9 rfl rfl rfl rfl rfl rfl rfl ?_
  refine jT_xiload_n (v := (0, 3)) (pcN := 13) jIS_47_12 rfl rfl rfl ?_
  refine jT_xlconst (z := 0) (pcN := 14) jIS_47_13 rfl rfl ?_
  refine jT_adv 1 (pcN := 15) (LN := [(3, (0, 3)), (0, (4, 0)), (1, (4, 1)), (2, (0, t))]) (stN := []) (hsN := [(8, [(4, 2), (4, 3)], []), (101, [], [u12_0, u12_1, u12_2, u12_3, u12_4, u12_5]), jgh, (101, [], [0, 0, 0, 0, 0, 0])]) (c1 := 0) (s1 := 0) (c2 := 0) (s2 := 0) (by exact rfl) ?_ (by omega) (by omega)
  refine jT_xiinc (x := 3) (z := 4) (LN := [(3, (0, 4)), (0, (4, 0)), (1, (4, 1)), (2, (0, t))]) (pcN := 18) jIS_47_15 rfl rfl (by decide) rfl rfl ?_
  refine jT_xgoto (pcN := 2) jIS_47_18 rfl ?_
  refine jT_xiload_n (v := (0, 4)) (pcN := 3) jIS_47_2 rfl rfl rfl ?_
  refine jT_xbipush (k := 6) (pcN := 5) jIS_47_3 (by decide) rfl ?_
  refine jT_xicF (t := 21) (pcN := 8) jIS_47_5 rfl (by decide +kernel) rfl rfl ?_
  refine jT_xaload_n (v := (4, 0)) (pcN := 9) jIS_47_8 rfl rfl rfl ?_
  refine jT_xgetf (a := 0) (t := 1) (ci := 8) (fi := 1) (c := (8, [(4, 2), (4, 3)], [])) (v := (4, 3)) (pcN := 12) jIS_47_9 rfl rfl rfl rfl rfl rfl rfl ?_
  refine jT_xiload_n (v := (0, 4)) (pcN := 13) jIS_47_12 rfl rfl rfl ?_
  refine jT_xlconst (z := 0) (pcN := 14) jIS_47_13 rfl rfl ?_
  refine jT_adv 1 (pcN := 15) (LN := [(3, (0, 4)), (0, (4, 0)), (1, (4, 1)), (2, (0, t))]) (stN := []) (hsN := [(8, [(4, 2), (4, 3)], []), (101, [], [u12_0, u12_1, u12_2, u12_3, u12_4, u12_5]), jgh, (101, [], [0, 0, 0, 0, 0, 0])]) (c1 := 0) (s1 := 0) (c2 := 0) (s2 := 0) (by exact rfl) ?_ (by omega) (by omega)
  refine jT_xiinc (x := 4) (z := 5) (LN := [(3, (0, 5)), (0, (4, 0)), (1, (4, 1)), (2, (0, t))]) (pcN := 18) jIS_47_15 rfl rfl (by decide) rfl rfl ?_
  refine jT_xgoto (pcN := 2) jIS_47_18 rfl ?_
  refine jT_xiload_n (v := (0, 5)) (pcN := 3) jIS_47_2 rfl rfl rfl ?_
  refine jT_xbipush (k := 6) (pcN := 5) jIS_47_3 (by decide) rfl ?_
  refine jT_xicF (t := 21) (pcN := 8) jIS_47_5 rfl (by decide +kernel) rfl rfl ?_
  refine jT_xaload_n (v := (4, 0)) (pcN := 9) jIS_47_8 rfl rfl rfl ?_
  refine jT_xgetf (a := 0) (t := 1) (ci := 8) (fi := 1) (c := (8, [(4, 2), (4, 3)], [])) (v := (4, 3)) (pcN := 12) jIS_47_9 rfl rfl rfl rfl rfl rfl rfl ?_
  refine jT_xiload_n (v := (0, 5)) (pcN := 13) jIS_47_12 rfl rfl rfl ?_
  refine jT_xlconst (z := 0) (pcN := 14) jIS_47_13 rfl rfl ?_
  refine jT_adv 1 (pcN := 15) (LN := [(3, (0, 5)), (0, (4, 0)), (1, (4, 1)), (2, (0, t))]) (stN := []) (hsN := [(8, [(4, 2), (4, 3)], []), (101, [], [u12_0, u12_1, u12_2, u12_3, u12_4, u12_5]), jgh, (101, [], [0, 0, 0, 0, 0, 0])]) (c1 := 0) (s1 := 0) (c2 := 0) (s2 := 0) (by exact rfl) ?_ (by omega) (by omega)
  refine jT_xiinc (x := 5) (z := 6) (LN := [(3, (0, 6)), (0, (4, 0)), (1, (4, 1)), (2, (0, t))]) (pcN := 18) jIS_47_15 rfl rfl (by decide) rfl rfl ?_
  refine jT_xgoto (pcN := 2) jIS_47_18 rfl ?_
  refine jT_xiload_n (v := (0, 6)) (pcN := 3) jIS_47_2 rfl rfl rfl ?_
  refine jT_xbipush (k := 6) (pcN := 5) jIS_47_3 (by decide) rfl ?_
  refine jT_xicT (pcN := 21) jIS_47_5 rfl (by decide +kernel) rfl ?_
  refine jT_xiconst (k := 0) (pcN := 22) jIS_47_21 rfl ?_
  refine jT_xistore_n (v := (0, 0)) (LN := [(3, (0, 0)), (0, (4, 0)), (1, (4, 1)), (2, (0, t))]) (pcN := 23) jIS_47_22 rfl rfl rfl rfl ?_
  refine jT_xiload_n (v := (0, 0)) (pcN := 24) jIS_47_23 rfl rfl rfl ?_
  refine jT_xbipush (k := 6) (pcN := 26) jIS_47_24 (by decide) rfl ?_
  refine jT_xicF (t := 79) (pcN := 29) jIS_47_26 rfl (by decide +kernel) rfl rfl ?_
  refine jT_xiload_n (v := (0, 0)) (pcN := 30) jIS_47_29 rfl rfl rfl ?_
  refine jT_xaload_n (v := (4, 1)) (pcN := 31) jIS_47_30 rfl rfl rfl ?_
  refine jT_adv 1 (pcN := 32) (LN := [(3, (0, 0)), (0, (4, 0)), (1, (4, 1)), (2, (0, t))]) (stN := [(0, 6), (0, 0)]) (hsN := [(8, [(4, 2), (4, 3)], []), (101, [], [u12_0, u12_1, u12_2, u12_3, u12_4, u12_5]), jgh, (101, [], [0, 0, 0, 0, 0, 0])]) (c1 := 0) (s1 := 0) (c2 := 0) (s2 := 0) (by exact rfl) ?_ (by omega) (by omega)
  refine jT_xicF (t := 79) (pcN := 35) jIS_47_32 rfl (by decide +kernel) rfl rfl ?_
  refine jT_xaload_n (v := (4, 0)) (pcN := 36) jIS_47_35 rfl rfl rfl ?_
  refine jT_xgetf (a := 0) (t := 1) (ci := 8) (fi := 1) (c := (8, [(4, 2), (4, 3)], [])) (v := (4, 3)) (pcN := 39) jIS_47_36 rfl rfl rfl rfl rfl rfl rfl ?_
  refine jT_xiload_n (v := (0, 0)) (pcN := 40) jIS_47_39 rfl rfl rfl ?_
  refine jT_xlconst (z := 1) (pcN := 41) jIS_47_40 rfl rfl ?_
  refine jT_adv 1 (pcN := 42) (LN := [(3, (0, 0)), (0, (4, 0)), (1, (4, 1)), (2, (0, t))]) (stN := []) (hsN := [(8, [(4, 2), (4, 3)], []), (101, [], [u12_0, u12_1, u12_2, u12_3, u12_4, u12_5]), jgh, (101, [], [1, 0, 0, 0, 0, 0])]) (c1 := 0) (s1 := 0) (c2 := 0) (s2 := 0) (by exact rfl) ?_ (by omega) (by omega)
  refine jT_xaload_n (v := (4, 1)) (pcN := 43) jIS_47_42 rfl rfl rfl ?_
  refine jT_xiload_n (v := (0, 0)) (pcN := 44) jIS_47_43 rfl rfl rfl ?_
  refine jT_xaload_n (v := (4, 0)) (pcN := 45) jIS_47_44 rfl rfl rfl ?_
  refine jT_xaload_n (v := (4, 0)) (pcN := 46) jIS_47_45 rfl rfl rfl ?_
  refine jT_xgetf (a := 0) (t := 1) (ci := 8) (fi := 1) (c := (8, [(4, 2), (4, 3)], [])) (v := (4, 3)) (pcN := 49) jIS_47_46 rfl rfl rfl rfl rfl rfl rfl ?_
  refine jT_xlconst (z := 1) (pcN := 50) jIS_47_49 rfl rfl ?_
  refine jT_adv 1 (pcN := 53) (LN := [(3, (0, 0)), (0, (4, 0)), (1, (4, 1)), (2, (0, t))]) (stN := [(1, 2), (1, 1), (4, 3), (4, 0), (0, 0), (4, 1)]) (hsN := [(8, [(4, 2), (4, 3)], []), (101, [], [u12_0, u12_1, u12_2, u12_3, u12_4, u12_5]), jgh, (101, [], [1, 0, 0, 0, 0, 0])]) (c1 := 0) (s1 := 0) (c2 := 0) (s2 := 0) (by exact rfl) ?_ (by omega) (by omega)
  refine jT_xiload_n (v := (0, t)) (pcN := 54) jIS_47_53 rfl rfl rfl ?_
  refine jT_xi2l (x := t) (z := t) (pcN := 55) jIS_47_54 rfl (jw_idd (by omega) (by omega)) rfl ?_
  refine jT_xlmul (x := 2) (y := t) (z := 2 * t) (pcN := 56) jIS_47_55 rfl (rfl) rfl ?_
  refine jT_callA [0, 3, 2] (y := 45) (pcN := 59) (dC := 1) (bc1 := 0) (bc2 := 0) (c1 := 0) (c2 := 0) (as := [(4, 0), (4, 3), (1, 1), (1, 2 * t)]) (asC := [(4, 0), (4, 1), (1, 1), (1, 2 * t)]) (LN := [(3, (0, 0)), (0, (4, 0)), (1, (4, 1)), (2, (0, t))]) (stN := [(0, 0), (4, 1)]) (hsC := [(8, [(4, 2), (4, 1)], []), (101, [], [1, 0, 0, 0, 0, 0]), jgh]) (ex := []) (v := (1, 2 * t)) (st2 := [(1, 2 * t), (0, 0), (4, 1)]) (hs2 := [(8, [(4, 2), (4, 3)], []), (101, [], [u12_0, u12_1, u12_2, u12_3, u12_4, u12_5]), jgh, (101, [], [1, 0, 0, 0, 0, 0])]) (jS_45_45 (d := 0) (by omega) (by omega)) (by rfl) (by rfl) (by rfl) (by rfl) ⟨rfl, rfl, rfl, trivial⟩ (by rfl) (by rfl) (by omega) (by show 4 ≤ 4; omega) (by omega) (by omega) rfl rfl ?_
  refine jT_xlconst (z := 1) (pcN := 60) jIS_47_59 rfl rfl ?_
  refine jT_xladd (x := 2 * t) (y := 1) (z := 2 * t + 1) (pcN := 61) jIS_47_60 rfl (by omega) rfl ?_
  refine jT_xiconst (k := 2) (pcN := 62) jIS_47_61 rfl ?_
  refine jT_callA [] (y := 374) (pcN := 65) (dC := 1) (bc1 := 0) (bc2 := 0) (c1 := 0) (c2 := 0) (as := [(1, 2 * t + 1), (0, 2)]) (asC := [(1, 2 * t + 1), (0, 2)]) (LN := [(3, (0, 0)), (0, (4, 0)), (1, (4, 1)), (2, (0, t))]) (stN := [(0, 0), (4, 1)]) (hsC := []) (ex := []) (v := (1, (2 * t + 1) / 2)) (st2 := [(1, (2 * t + 1) / 2), (0, 0), (4, 1)]) (hs2 := [(8, [(4, 2), (4, 3)], []), (101, [], [u12_0, u12_1, u12_2, u12_3, u12_4, u12_5]), jgh, (101, [], [1, 0, 0, 0, 0, 0])]) (jS_374_46 (d := 0) (by omega) (by omega)) (by rfl) (by rfl) (by rfl) (by rfl) trivial (by rfl) (by rfl) (by omega) (by show 4 ≤ 4; omega) (by omega) (by omega) rfl rfl ?_
  have hb_q1 : 1 ≤ (2 * t + 1) / 2 ∧ (2 * t + 1) / 2 ≤ 60 := ⟨by omega, by omega⟩
  generalize hq_q1 : (2 * t + 1) / 2 = q1 at hb_q1 ⊢
  refine jT_adv 1 (pcN := 66) (LN := [(3, (0, 0)), (0, (4, 0)), (1, (4, 1)), (2, (0, t))]) (stN := []) (hsN := [(8, [(4, 2), (4, 3)], []), (101, [], [q1, u12_1, u12_2, u12_3, u12_4, u12_5]), jgh, (101, [], [1, 0, 0, 0, 0, 0])]) (c1 := 0) (s1 := 0) (c2 := 0) (s2 := 0) (by exact rfl) ?_ (by omega) (by omega)
  refine jT_xaload_n (v := (4, 0)) (pcN := 67) jIS_47_66 rfl rfl rfl ?_
  refine jT_xgetf (a := 0) (t := 1) (ci := 8) (fi := 1) (c := (8, [(4, 2), (4, 3)], [])) (v := (4, 3)) (pcN := 70) jIS_47_67 rfl rfl rfl rfl rfl rfl rfl ?_
  refine jT_xiload_n (v := (0, 0)) (pcN := 71) jIS_47_70 rfl rfl rfl ?_
  refine jT_xlconst (z := 0) (pcN := 72) jIS_47_71 rfl rfl ?_
  refine jT_adv 1 (pcN := 73) (LN := [(3, (0, 0)), (0, (4, 0)), (1, (4, 1)), (2, (0, t))]) (stN := []) (hsN := [(8, [(4, 2), (4, 3)], []), (101, [], [q1, u12_1, u12_2, u12_3, u12_4, u12_5]), jgh, (101, [], [0, 0, 0, 0, 0, 0])]) (c1 := 0) (s1 := 0) (c2 := 0) (s2 := 0) (by exact rfl) ?_ (by omega) (by omega)
  refine jT_xiinc (x := 0) (z := 1) (LN := [(3, (0, 1)), (0, (4, 0)), (1, (4, 1)), (2, (0, t))]) (pcN := 76) jIS_47_73 rfl rfl (by decide) rfl rfl ?_
  refine jT_xgoto (pcN := 23) jIS_47_76 rfl ?_
  refine jT_xiload_n (v := (0, 1)) (pcN := 24) jIS_47_23 rfl rfl rfl ?_
  refine jT_xbipush (k := 6) (pcN := 26) jIS_47_24 (by decide) rfl ?_
  refine jT_xicF (t := 79) (pcN := 29) jIS_47_26 rfl (by decide +kernel) rfl rfl ?_
  refine jT_xiload_n (v := (0, 1)) (pcN := 30) jIS_47_29 rfl rfl rfl ?_
  refine jT_xaload_n (v := (4, 1)) (pcN := 31) jIS_47_30 rfl rfl rfl ?_
  refine jT_adv 1 (pcN := 32) (LN := [(3, (0, 1)), (0, (4, 0)), (1, (4, 1)), (2, (0, t))]) (stN := [(0, 6), (0, 1)]) (hsN := [(8, [(4, 2), (4, 3)], []), (101, [], [q1, u12_1, u12_2, u12_3, u12_4, u12_5]), jgh, (101, [], [0, 0, 0, 0, 0, 0])]) (c1 := 0) (s1 := 0) (c2 := 0) (s2 := 0) (by exact rfl) ?_ (by omega) (by omega)
  refine jT_xicF (t := 79) (pcN := 35) jIS_47_32 rfl (by decide +kernel) rfl rfl ?_
  refine jT_xaload_n (v := (4, 0)) (pcN := 36) jIS_47_35 rfl rfl rfl ?_
  refine jT_xgetf (a := 0) (t := 1) (ci := 8) (fi := 1) (c := (8, [(4, 2), (4, 3)], [])) (v := (4, 3)) (pcN := 39) jIS_47_36 rfl rfl rfl rfl rfl rfl rfl ?_
  refine jT_xiload_n (v := (0, 1)) (pcN := 40) jIS_47_39 rfl rfl rfl ?_
  refine jT_xlconst (z := 1) (pcN := 41) jIS_47_40 rfl rfl ?_
  refine jT_adv 1 (pcN := 42) (LN := [(3, (0, 1)), (0, (4, 0)), (1, (4, 1)), (2, (0, t))]) (stN := []) (hsN := [(8, [(4, 2), (4, 3)], []), (101, [], [q1, u12_1, u12_2, u12_3, u12_4, u12_5]), jgh, (101, [], [0, 1, 0, 0, 0, 0])]) (c1 := 0) (s1 := 0) (c2 := 0) (s2 := 0) (by exact rfl) ?_ (by omega) (by omega)
  refine jT_xaload_n (v := (4, 1)) (pcN := 43) jIS_47_42 rfl rfl rfl ?_
  refine jT_xiload_n (v := (0, 1)) (pcN := 44) jIS_47_43 rfl rfl rfl ?_
  refine jT_xaload_n (v := (4, 0)) (pcN := 45) jIS_47_44 rfl rfl rfl ?_
  refine jT_xaload_n (v := (4, 0)) (pcN := 46) jIS_47_45 rfl rfl rfl ?_
  refine jT_xgetf (a := 0) (t := 1) (ci := 8) (fi := 1) (c := (8, [(4, 2), (4, 3)], [])) (v := (4, 3)) (pcN := 49) jIS_47_46 rfl rfl rfl rfl rfl rfl rfl ?_
  refine jT_xlconst (z := 1) (pcN := 50) jIS_47_49 rfl rfl ?_
  refine jT_adv 1 (pcN := 53) (LN := [(3, (0, 1)), (0, (4, 0)), (1, (4, 1)), (2, (0, t))]) (stN := [(1, 2), (1, 1), (4, 3), (4, 0), (0, 1), (4, 1)]) (hsN := [(8, [(4, 2), (4, 3)], []), (101, [], [q1, u12_1, u12_2, u12_3, u12_4, u12_5]), jgh, (101, [], [0, 1, 0, 0, 0, 0])]) (c1 := 0) (s1 := 0) (c2 := 0) (s2 := 0) (by exact rfl) ?_ (by omega) (by omega)
  refine jT_xiload_n (v := (0, t)) (pcN := 54) jIS_47_53 rfl rfl rfl ?_
  refine jT_xi2l (x := t) (z := t) (pcN := 55) jIS_47_54 rfl (jw_idd (by omega) (by omega)) rfl ?_
  refine jT_xlmul (x := 2) (y := t) (z := 2 * t) (pcN := 56) jIS_47_55 rfl (rfl) rfl ?_
  refine jT_callA [0, 3, 2] (y := 45) (pcN := 59) (dC := 1) (bc1 := 0) (bc2 := 0) (c1 := 0) (c2 := 0) (as := [(4, 0), (4, 3), (1, 1), (1, 2 * t)]) (asC := [(4, 0), (4, 1), (1, 1), (1, 2 * t)]) (LN := [(3, (0, 1)), (0, (4, 0)), (1, (4, 1)), (2, (0, t))]) (stN := [(0, 1), (4, 1)]) (hsC := [(8, [(4, 2), (4, 1)], []), (101, [], [0, 1, 0, 0, 0, 0]), jgh]) (ex := []) (v := (1, (217835587388 * t) / 68719476736)) (st2 := [(1, (217835587388 * t) / 68719476736), (0, 1), (4, 1)]) (hs2 := [(8, [(4, 2), (4, 3)], []), (101, [], [q1, u12_1, u12_2, u12_3, u12_4, u12_5]), jgh, (101, [], [0, 1, 0, 0, 0, 0])]) (jS_45_50 (d := 0) (by omega) (by omega)) (by rfl) (by rfl) (by rfl) (by rfl) ⟨rfl, rfl, rfl, trivial⟩ (by rfl) (by rfl) (by omega) (by show 4 ≤ 4; omega) (by omega) (by omega) rfl rfl ?_
  have hb_q2 : 3 ≤ (217835587388 * t) / 68719476736 ∧ (217835587388 * t) / 68719476736 ≤ 190 := ⟨by omega, by omega⟩
  generalize hq_q2 : (217835587388 * t) / 68719476736 = q2 at hb_q2 ⊢
  refine jT_xlconst (z := 1) (pcN := 60) jIS_47_59 rfl rfl ?_
  refine jT_xladd (x := q2) (y := 1) (z := q2 + 1) (pcN := 61) jIS_47_60 rfl (rfl) rfl ?_
  refine jT_xiconst (k := 2) (pcN := 62) jIS_47_61 rfl ?_
  refine jT_callA [] (y := 374) (pcN := 65) (dC := 1) (bc1 := 0) (bc2 := 0) (c1 := 0) (c2 := 0) (as := [(1, q2 + 1), (0, 2)]) (asC := [(1, q2 + 1), (0, 2)]) (LN := [(3, (0, 1)), (0, (4, 0)), (1, (4, 1)), (2, (0, t))]) (stN := [(0, 1), (4, 1)]) (hsC := []) (ex := []) (v := (1, (q2 + 1) / 2)) (st2 := [(1, (q2 + 1) / 2), (0, 1), (4, 1)]) (hs2 := [(8, [(4, 2), (4, 3)], []), (101, [], [q1, u12_1, u12_2, u12_3, u12_4, u12_5]), jgh, (101, [], [0, 1, 0, 0, 0, 0])]) (jS_374_51 (d := 0) (by omega)) (by rfl) (by rfl) (by rfl) (by rfl) trivial (by rfl) (by rfl) (by omega) (by show 4 ≤ 4; omega) (by omega) (by omega) rfl rfl ?_
  have hb_q3 : 2 ≤ (q2 + 1) / 2 ∧ (q2 + 1) / 2 ≤ 95 := ⟨by omega, by omega⟩
  generalize hq_q3 : (q2 + 1) / 2 = q3 at hb_q3 ⊢
  refine jT_adv 1 (pcN := 66) (LN := [(3, (0, 1)), (0, (4, 0)), (1, (4, 1)), (2, (0, t))]) (stN := []) (hsN := [(8, [(4, 2), (4, 3)], []), (101, [], [q1, q3, u12_2, u12_3, u12_4, u12_5]), jgh, (101, [], [0, 1, 0, 0, 0, 0])]) (c1 := 0) (s1 := 0) (c2 := 0) (s2 := 0) (by exact rfl) ?_ (by omega) (by omega)
  refine jT_xaload_n (v := (4, 0)) (pcN := 67) jIS_47_66 rfl rfl rfl ?_
  refine jT_xgetf (a := 0) (t := 1) (ci := 8) (fi := 1) (c := (8, [(4, 2), (4, 3)], [])) (v := (4, 3)) (pcN := 70) jIS_47_67 rfl rfl rfl rfl rfl rfl rfl ?_
  refine jT_xiload_n (v := (0, 1)) (pcN := 71) jIS_47_70 rfl rfl rfl ?_
  refine jT_xlconst (z := 0) (pcN := 72) jIS_47_71 rfl rfl ?_
  refine jT_adv 1 (pcN := 73) (LN := [(3, (0, 1)), (0, (4, 0)), (1, (4, 1)), (2, (0, t))]) (stN := []) (hsN := [(8, [(4, 2), (4, 3)], []), (101, [], [q1, q3, u12_2, u12_3, u12_4, u12_5]), jgh, (101, [], [0, 0, 0, 0, 0, 0])]) (c1 := 0) (s1 := 0) (c2 := 0) (s2 := 0) (by exact rfl) ?_ (by omega) (by omega)
  refine jT_xiinc (x := 1) (z := 2) (LN := [(3, (0, 2)), (0, (4, 0)), (1, (4, 1)), (2, (0, t))]) (pcN := 76) jIS_47_73 rfl rfl (by decide) rfl rfl ?_
  refine jT_xgoto (pcN := 23) jIS_47_76 rfl ?_
  refine jT_xiload_n (v := (0, 2)) (pcN := 24) jIS_47_23 rfl rfl rfl ?_
  refine jT_xbipush (k := 6) (pcN := 26) jIS_47_24 (by decide) rfl ?_
  refine jT_xicF (t := 79) (pcN := 29) jIS_47_26 rfl (by decide +kernel) rfl rfl ?_
  refine jT_xiload_n (v := (0, 2)) (pcN := 30) jIS_47_29 rfl rfl rfl ?_
  refine jT_xaload_n (v := (4, 1)) (pcN := 31) jIS_47_30 rfl rfl rfl ?_
  refine jT_adv 1 (pcN := 32) (LN := [(3, (0, 2)), (0, (4, 0)), (1, (4, 1)), (2, (0, t))]) (stN := [(0, 6), (0, 2)]) (hsN := [(8, [(4, 2), (4, 3)], []), (101, [], [q1, q3, u12_2, u12_3, u12_4, u12_5]), jgh, (101, [], [0, 0, 0, 0, 0, 0])]) (c1 := 0) (s1 := 0) (c2 := 0) (s2 := 0) (by exact rfl) ?_ (by omega) (by omega)
  refine jT_xicF (t := 79) (pcN := 35) jIS_47_32 rfl (by decide +kernel) rfl rfl ?_
  refine jT_xaload_n (v := (4, 0)) (pcN := 36) jIS_47_35 rfl rfl rfl ?_
  refine jT_xgetf (a := 0) (t := 1) (ci := 8) (fi := 1) (c := (8, [(4, 2), (4, 3)], [])) (v := (4, 3)) (pcN := 39) jIS_47_36 rfl rfl rfl rfl rfl rfl rfl ?_
  refine jT_xiload_n (v := (0, 2)) (pcN := 40) jIS_47_39 rfl rfl rfl ?_
  refine jT_xlconst (z := 1) (pcN := 41) jIS_47_40 rfl rfl ?_
  refine jT_adv 1 (pcN := 42) (LN := [(3, (0, 2)), (0, (4, 0)), (1, (4, 1)), (2, (0, t))]) (stN := []) (hsN := [(8, [(4, 2), (4, 3)], []), (101, [], [q1, q3, u12_2, u12_3, u12_4, u12_5]), jgh, (101, [], [0, 0, 1, 0, 0, 0])]) (c1 := 0) (s1 := 0) (c2 := 0) (s2 := 0) (by exact rfl) ?_ (by omega) (by omega)
  refine jT_xaload_n (v := (4, 1)) (pcN := 43) jIS_47_42 rfl rfl rfl ?_
  refine jT_xiload_n (v := (0, 2)) (pcN := 44) jIS_47_43 rfl rfl rfl ?_
  refine jT_xaload_n (v := (4, 0)) (pcN := 45) jIS_47_44 rfl rfl rfl ?_
  refine jT_xaload_n (v := (4, 0)) (pcN := 46) jIS_47_45 rfl rfl rfl ?_
  refine jT_xgetf (a := 0) (t := 1) (ci := 8) (fi := 1) (c := (8, [(4, 2), (4, 3)], [])) (v := (4, 3)) (pcN := 49) jIS_47_46 rfl rfl rfl rfl rfl rfl rfl ?_
  refine jT_xlconst (z := 1) (pcN := 50) jIS_47_49 rfl rfl ?_
  refine jT_adv 1 (pcN := 53) (LN := [(3, (0, 2)), (0, (4, 0)), (1, (4, 1)), (2, (0, t))]) (stN := [(1, 2), (1, 1), (4, 3), (4, 0), (0, 2), (4, 1)]) (hsN := [(8, [(4, 2), (4, 3)], []), (101, [], [q1, q3, u12_2, u12_3, u12_4, u12_5]), jgh, (101, [], [0, 0, 1, 0, 0, 0])]) (c1 := 0) (s1 := 0) (c2 := 0) (s2 := 0) (by exact rfl) ?_ (by omega) (by omega)
  refine jT_xiload_n (v := (0, t)) (pcN := 54) jIS_47_53 rfl rfl rfl ?_
  refine jT_xi2l (x := t) (z := t) (pcN := 55) jIS_47_54 rfl (jw_idd (by omega) (by omega)) rfl ?_
  refine jT_xlmul (x := 2) (y := t) (z := 2 * t) (pcN := 56) jIS_47_55 rfl (rfl) rfl ?_
  refine jT_callA [0, 3, 2] (y := 45) (pcN := 59) (dC := 1) (bc1 := 0) (bc2 := 0) (c1 := 0) (c2 := 0) (as := [(4, 0), (4, 3), (1, 1), (1, 2 * t)]) (asC := [(4, 0), (4, 1), (1, 1), (1, 2 * t)]) (LN := [(3, (0, 2)), (0, (4, 0)), (1, (4, 1)), (2, (0, t))]) (stN := [(0, 2), (4, 1)]) (hsC := [(8, [(4, 2), (4, 1)], []), (101, [], [0, 0, 1, 0, 0, 0]), jgh]) (ex := []) (v := (1, (319123367396 * t) / 68719476736)) (st2 := [(1, (319123367396 * t) / 68719476736), (0, 2), (4, 1)]) (hs2 := [(8, [(4, 2), (4, 3)], []), (101, [], [q1, q3, u12_2, u12_3, u12_4, u12_5]), jgh, (101, [], [0, 0, 1, 0, 0, 0])]) (jS_45_55 (d := 0) (by omega) (by omega)) (by rfl) (by rfl) (by rfl) (by rfl) ⟨rfl, rfl, rfl, trivial⟩ (by rfl) (by rfl) (by omega) (by show 4 ≤ 4; omega) (by omega) (by omega) rfl rfl ?_
  have hb_q4 : 4 ≤ (319123367396 * t) / 68719476736 ∧ (319123367396 * t) / 68719476736 ≤ 278 := ⟨by omega, by omega⟩
  generalize hq_q4 : (319123367396 * t) / 68719476736 = q4 at hb_q4 ⊢
  refine jT_xlconst (z := 1) (pcN := 60) jIS_47_59 rfl rfl ?_
  refine jT_xladd (x := q4) (y := 1) (z := q4 + 1) (pcN := 61) jIS_47_60 rfl (rfl) rfl ?_
  refine jT_xiconst (k := 2) (pcN := 62) jIS_47_61 rfl ?_
  refine jT_callA [] (y := 374) (pcN := 65) (dC := 1) (bc1 := 0) (bc2 := 0) (c1 := 0) (c2 := 0) (as := [(1, q4 + 1), (0, 2)]) (asC := [(1, q4 + 1), (0, 2)]) (LN := [(3, (0, 2)), (0, (4, 0)), (1, (4, 1)), (2, (0, t))]) (stN := [(0, 2), (4, 1)]) (hsC := []) (ex := []) (v := (1, (q4 + 1) / 2)) (st2 := [(1, (q4 + 1) / 2), (0, 2), (4, 1)]) (hs2 := [(8, [(4, 2), (4, 3)], []), (101, [], [q1, q3, u12_2, u12_3, u12_4, u12_5]), jgh, (101, [], [0, 0, 1, 0, 0, 0])]) (jS_374_56 (d := 0) (by omega)) (by rfl) (by rfl) (by rfl) (by rfl) trivial (by rfl) (by rfl) (by omega) (by show 4 ≤ 4; omega) (by omega) (by omega) rfl rfl ?_
  have hb_q5 : 2 ≤ (q4 + 1) / 2 ∧ (q4 + 1) / 2 ≤ 139 := ⟨by omega, by omega⟩
  generalize hq_q5 : (q4 + 1) / 2 = q5 at hb_q5 ⊢
  refine jT_adv 1 (pcN := 66) (LN := [(3, (0, 2)), (0, (4, 0)), (1, (4, 1)), (2, (0, t))]) (stN := []) (hsN := [(8, [(4, 2), (4, 3)], []), (101, [], [q1, q3, q5, u12_3, u12_4, u12_5]), jgh, (101, [], [0, 0, 1, 0, 0, 0])]) (c1 := 0) (s1 := 0) (c2 := 0) (s2 := 0) (by exact rfl) ?_ (by omega) (by omega)
  refine jT_xaload_n (v := (4, 0)) (pcN := 67) jIS_47_66 rfl rfl rfl ?_
  refine jT_xgetf (a := 0) (t := 1) (ci := 8) (fi := 1) (c := (8, [(4, 2), (4, 3)], [])) (v := (4, 3)) (pcN := 70) jIS_47_67 rfl rfl rfl rfl rfl rfl rfl ?_
  refine jT_xiload_n (v := (0, 2)) (pcN := 71) jIS_47_70 rfl rfl rfl ?_
  refine jT_xlconst (z := 0) (pcN := 72) jIS_47_71 rfl rfl ?_
  refine jT_adv 1 (pcN := 73) (LN := [(3, (0, 2)), (0, (4, 0)), (1, (4, 1)), (2, (0, t))]) (stN := []) (hsN := [(8, [(4, 2), (4, 3)], []), (101, [], [q1, q3, q5, u12_3, u12_4, u12_5]), jgh, (101, [], [0, 0, 0, 0, 0, 0])]) (c1 := 0) (s1 := 0) (c2 := 0) (s2 := 0) (by exact rfl) ?_ (by omega) (by omega)
  refine jT_xiinc (x := 2) (z := 3) (LN := [(3, (0, 3)), (0, (4, 0)), (1, (4, 1)), (2, (0, t))]) (pcN := 76) jIS_47_73 rfl rfl (by decide) rfl rfl ?_
  refine jT_xgoto (pcN := 23) jIS_47_76 rfl ?_
  refine jT_xiload_n (v := (0, 3)) (pcN := 24) jIS_47_23 rfl rfl rfl ?_
  refine jT_xbipush (k := 6) (pcN := 26) jIS_47_24 (by decide) rfl ?_
  refine jT_xicF (t := 79) (pcN := 29) jIS_47_26 rfl (by decide +kernel) rfl rfl ?_
  refine jT_xiload_n (v := (0, 3)) (pcN := 30) jIS_47_29 rfl rfl rfl ?_
  refine jT_xaload_n (v := (4, 1)) (pcN := 31) jIS_47_30 rfl rfl rfl ?_
  refine jT_adv 1 (pcN := 32) (LN := [(3, (0, 3)), (0, (4, 0)), (1, (4, 1)), (2, (0, t))]) (stN := [(0, 6), (0, 3)]) (hsN := [(8, [(4, 2), (4, 3)], []), (101, [], [q1, q3, q5, u12_3, u12_4, u12_5]), jgh, (101, [], [0, 0, 0, 0, 0, 0])]) (c1 := 0) (s1 := 0) (c2 := 0) (s2 := 0) (by exact rfl) ?_ (by omega) (by omega)
  refine jT_xicF (t := 79) (pcN := 35) jIS_47_32 rfl (by decide +kernel) rfl rfl ?_
  refine jT_xaload_n (v := (4, 0)) (pcN := 36) jIS_47_35 rfl rfl rfl ?_
  refine jT_xgetf (a := 0) (t := 1) (ci := 8) (fi := 1) (c := (8, [(4, 2), (4, 3)], [])) (v := (4, 3)) (pcN := 39) jIS_47_36 rfl rfl rfl rfl rfl rfl rfl ?_
  refine jT_xiload_n (v := (0, 3)) (pcN := 40) jIS_47_39 rfl rfl rfl ?_
  refine jT_xlconst (z := 1) (pcN := 41) jIS_47_40 rfl rfl ?_
  refine jT_adv 1 (pcN := 42) (LN := [(3, (0, 3)), (0, (4, 0)), (1, (4, 1)), (2, (0, t))]) (stN := []) (hsN := [(8, [(4, 2), (4, 3)], []), (101, [], [q1, q3, q5, u12_3, u12_4, u12_5]), jgh, (101, [], [0, 0, 0, 1, 0, 0])]) (c1 := 0) (s1 := 0) (c2 := 0) (s2 := 0) (by exact rfl) ?_ (by omega) (by omega)
  refine jT_xaload_n (v := (4, 1)) (pcN := 43) jIS_47_42 rfl rfl rfl ?_
  refine jT_xiload_n (v := (0, 3)) (pcN := 44) jIS_47_43 rfl rfl rfl ?_
  refine jT_xaload_n (v := (4, 0)) (pcN := 45) jIS_47_44 rfl rfl rfl ?_
  refine jT_xaload_n (v := (4, 0)) (pcN := 46) jIS_47_45 rfl rfl rfl ?_
  refine jT_xgetf (a := 0) (t := 1) (ci := 8) (fi := 1) (c := (8, [(4, 2), (4, 3)], [])) (v := (4, 3)) (pcN := 49) jIS_47_46 rfl rfl rfl rfl rfl rfl rfl ?_
  refine jT_xlconst (z := 1) (pcN := 50) jIS_47_49 rfl rfl ?_
  refine jT_adv 1 (pcN := 53) (LN := [(3, (0, 3)), (0, (4, 0)), (1, (4, 1)), (2, (0, t))]) (stN := [(1, 2), (1, 1), (4, 3), (4, 0), (0, 3), (4, 1)]) (hsN := [(8, [(4, 2), (4, 3)], []), (101, [], [q1, q3, q5, u12_3, u12_4, u12_5]), jgh, (101, [], [0, 0, 0, 1, 0, 0])]) (c1 := 0) (s1 := 0) (c2 := 0) (s2 := 0) (by exact rfl) ?_ (by omega) (by omega)
  refine jT_xiload_n (v := (0, t)) (pcN := 54) jIS_47_53 rfl rfl rfl ?_
  refine jT_xi2l (x := t) (z := t) (pcN := 55) jIS_47_54 rfl (jw_idd (by omega) (by omega)) rfl ?_
  refine jT_xlmul (x := 2) (y := t) (z := 2 * t) (pcN := 56) jIS_47_55 rfl (rfl) rfl ?_
  refine jT_callA [0, 3, 2] (y := 45) (pcN := 59) (dC := 1) (bc1 := 0) (bc2 := 0) (c1 := 0) (c2 := 0) (as := [(4, 0), (4, 3), (1, 1), (1, 2 * t)]) (asC := [(4, 0), (4, 1), (1, 1), (1, 2 * t)]) (LN := [(3, (0, 3)), (0, (4, 0)), (1, (4, 1)), (2, (0, t))]) (stN := [(0, 3), (4, 1)]) (hsC := [(8, [(4, 2), (4, 1)], []), (101, [], [0, 0, 0, 1, 0, 0]), jgh]) (ex := []) (v := (1, (385839922510 * t) / 68719476736)) (st2 := [(1, (385839922510 * t) / 68719476736), (0, 3), (4, 1)]) (hs2 := [(8, [(4, 2), (4, 3)], []), (101, [], [q1, q3, q5, u12_3, u12_4, u12_5]), jgh, (101, [], [0, 0, 0, 1, 0, 0])]) (jS_45_60 (d := 0) (by omega) (by omega)) (by rfl) (by rfl) (by rfl) (by rfl) ⟨rfl, rfl, rfl, trivial⟩ (by rfl) (by rfl) (by omega) (by show 4 ≤ 4; omega) (by omega) (by omega) rfl rfl ?_
  have hb_q6 : 5 ≤ (385839922510 * t) / 68719476736 ∧ (385839922510 * t) / 68719476736 ≤ 336 := ⟨by omega, by omega⟩
  generalize hq_q6 : (385839922510 * t) / 68719476736 = q6 at hb_q6 ⊢
  refine jT_xlconst (z := 1) (pcN := 60) jIS_47_59 rfl rfl ?_
  refine jT_xladd (x := q6) (y := 1) (z := q6 + 1) (pcN := 61) jIS_47_60 rfl (rfl) rfl ?_
  refine jT_xiconst (k := 2) (pcN := 62) jIS_47_61 rfl ?_
  refine jT_callA [] (y := 374) (pcN := 65) (dC := 1) (bc1 := 0) (bc2 := 0) (c1 := 0) (c2 := 0) (as := [(1, q6 + 1), (0, 2)]) (asC := [(1, q6 + 1), (0, 2)]) (LN := [(3, (0, 3)), (0, (4, 0)), (1, (4, 1)), (2, (0, t))]) (stN := [(0, 3), (4, 1)]) (hsC := []) (ex := []) (v := (1, (q6 + 1) / 2)) (st2 := [(1, (q6 + 1) / 2), (0, 3), (4, 1)]) (hs2 := [(8, [(4, 2), (4, 3)], []), (101, [], [q1, q3, q5, u12_3, u12_4, u12_5]), jgh, (101, [], [0, 0, 0, 1, 0, 0])]) (jS_374_61 (d := 0) (by omega)) (by rfl) (by rfl) (by rfl) (by rfl) trivial (by rfl) (by rfl) (by omega) (by show 4 ≤ 4; omega) (by omega) (by omega) rfl rfl ?_
  have hb_q7 : 3 ≤ (q6 + 1) / 2 ∧ (q6 + 1) / 2 ≤ 168 := ⟨by omega, by omega⟩
  generalize hq_q7 : (q6 + 1) / 2 = q7 at hb_q7 ⊢
  refine jT_adv 1 (pcN := 66) (LN := [(3, (0, 3)), (0, (4, 0)), (1, (4, 1)), (2, (0, t))]) (stN := []) (hsN := [(8, [(4, 2), (4, 3)], []), (101, [], [q1, q3, q5, q7, u12_4, u12_5]), jgh, (101, [], [0, 0, 0, 1, 0, 0])]) (c1 := 0) (s1 := 0) (c2 := 0) (s2 := 0) (by exact rfl) ?_ (by omega) (by omega)
  refine jT_xaload_n (v := (4, 0)) (pcN := 67) jIS_47_66 rfl rfl rfl ?_
  refine jT_xgetf (a := 0) (t := 1) (ci := 8) (fi := 1) (c := (8, [(4, 2), (4, 3)], [])) (v := (4, 3)) (pcN := 70) jIS_47_67 rfl rfl rfl rfl rfl rfl rfl ?_
  refine jT_xiload_n (v := (0, 3)) (pcN := 71) jIS_47_70 rfl rfl rfl ?_
  refine jT_xlconst (z := 0) (pcN := 72) jIS_47_71 rfl rfl ?_
  refine jT_adv 1 (pcN := 73) (LN := [(3, (0, 3)), (0, (4, 0)), (1, (4, 1)), (2, (0, t))]) (stN := []) (hsN := [(8, [(4, 2), (4, 3)], []), (101, [], [q1, q3, q5, q7, u12_4, u12_5]), jgh, (101, [], [0, 0, 0, 0, 0, 0])]) (c1 := 0) (s1 := 0) (c2 := 0) (s2 := 0) (by exact rfl) ?_ (by omega) (by omega)
  refine jT_xiinc (x := 3) (z := 4) (LN := [(3, (0, 4)), (0, (4, 0)), (1, (4, 1)), (2, (0, t))]) (pcN := 76) jIS_47_73 rfl rfl (by decide) rfl rfl ?_
  refine jT_xgoto (pcN := 23) jIS_47_76 rfl ?_
  refine jT_xiload_n (v := (0, 4)) (pcN := 24) jIS_47_23 rfl rfl rfl ?_
  refine jT_xbipush (k := 6) (pcN := 26) jIS_47_24 (by decide) rfl ?_
  refine jT_xicF (t := 79) (pcN := 29) jIS_47_26 rfl (by decide +kernel) rfl rfl ?_
  refine jT_xiload_n (v := (0, 4)) (pcN := 30) jIS_47_29 rfl rfl rfl ?_
  refine jT_xaload_n (v := (4, 1)) (pcN := 31) jIS_47_30 rfl rfl rfl ?_
  refine jT_adv 1 (pcN := 32) (LN := [(3, (0, 4)), (0, (4, 0)), (1, (4, 1)), (2, (0, t))]) (stN := [(0, 6), (0, 4)]) (hsN := [(8, [(4, 2), (4, 3)], []), (101, [], [q1, q3, q5, q7, u12_4, u12_5]), jgh, (101, [], [0, 0, 0, 0, 0, 0])]) (c1 := 0) (s1 := 0) (c2 := 0) (s2 := 0) (by exact rfl) ?_ (by omega) (by omega)
  refine jT_xicF (t := 79) (pcN := 35) jIS_47_32 rfl (by decide +kernel) rfl rfl ?_
  refine jT_xaload_n (v := (4, 0)) (pcN := 36) jIS_47_35 rfl rfl rfl ?_
  refine jT_xgetf (a := 0) (t := 1) (ci := 8) (fi := 1) (c := (8, [(4, 2), (4, 3)], [])) (v := (4, 3)) (pcN := 39) jIS_47_36 rfl rfl rfl rfl rfl rfl rfl ?_
  refine jT_xiload_n (v := (0, 4)) (pcN := 40) jIS_47_39 rfl rfl rfl ?_
  refine jT_xlconst (z := 1) (pcN := 41) jIS_47_40 rfl rfl ?_
  refine jT_adv 1 (pcN := 42) (LN := [(3, (0, 4)), (0, (4, 0)), (1, (4, 1)), (2, (0, t))]) (stN := []) (hsN := [(8, [(4, 2), (4, 3)], []), (101, [], [q1, q3, q5, q7, u12_4, u12_5]), jgh, (101, [], [0, 0, 0, 0, 1, 0])]) (c1 := 0) (s1 := 0) (c2 := 0) (s2 := 0) (by exact rfl) ?_ (by omega) (by omega)
  refine jT_xaload_n (v := (4, 1)) (pcN := 43) jIS_47_42 rfl rfl rfl ?_
  refine jT_xiload_n (v := (0, 4)) (pcN := 44) jIS_47_43 rfl rfl rfl ?_
  refine jT_xaload_n (v := (4, 0)) (pcN := 45) jIS_47_44 rfl rfl rfl ?_
  refine jT_xaload_n (v := (4, 0)) (pcN := 46) jIS_47_45 rfl rfl rfl ?_
  refine jT_xgetf (a := 0) (t := 1) (ci := 8) (fi := 1) (c := (8, [(4, 2), (4, 3)], [])) (v := (4, 3)) (pcN := 49) jIS_47_46 rfl rfl rfl rfl rfl rfl rfl ?_
  refine jT_xlconst (z := 1) (pcN := 50) jIS_47_49 rfl rfl ?_
  refine jT_adv 1 (pcN := 53) (LN := [(3, (0, 4)), (0, (4, 0)), (1, (4, 1)), (2, (0, t))]) (stN := [(1, 2), (1, 1), (4, 3), (4, 0), (0, 4), (4, 1)]) (hsN := [(8, [(4, 2), (4, 3)], []), (101, [], [q1, q3, q5, q7, u12_4, u12_5]), jgh, (101, [], [0, 0, 0, 0, 1, 0])]) (c1 := 0) (s1 := 0) (c2 := 0) (s2 := 0) (by exact rfl) ?_ (by omega) (by omega)
  refine jT_xiload_n (v := (0, t)) (pcN := 54) jIS_47_53 rfl rfl rfl ?_
  refine jT_xi2l (x := t) (z := t) (pcN := 55) jIS_47_54 rfl (jw_idd (by omega) (by omega)) rfl ?_
  refine jT_xlmul (x := 2) (y := t) (z := 2 * t) (pcN := 56) jIS_47_55 rfl (rfl) rfl ?_
  refine jT_callA [0, 3, 2] (y := 45) (pcN := 59) (dC := 1) (bc1 := 0) (bc2 := 0) (c1 := 0) (c2 := 0) (as := [(4, 0), (4, 3), (1, 1), (1, 2 * t)]) (asC := [(4, 0), (4, 1), (1, 1), (1, 2 * t)]) (LN := [(3, (0, 4)), (0, (4, 0)), (1, (4, 1)), (2, (0, t))]) (stN := [(0, 4), (4, 1)]) (hsC := [(8, [(4, 2), (4, 1)], []), (101, [], [0, 0, 0, 0, 1, 0]), jgh]) (ex := []) (v := (1, (475460661270 * t) / 68719476736)) (st2 := [(1, (475460661270 * t) / 68719476736), (0, 4), (4, 1)]) (hs2 := [(8, [(4, 2), (4, 3)], []), (101, [], [q1, q3, q5, q7, u12_4, u12_5]), jgh, (101, [], [0, 0, 0, 0, 1, 0])]) (jS_45_65 (d := 0) (by omega) (by omega)) (by rfl) (by rfl) (by rfl) (by rfl) ⟨rfl, rfl, rfl, trivial⟩ (by rfl) (by rfl) (by omega) (by show 4 ≤ 4; omega) (by omega) (by omega) rfl rfl ?_
  have hb_q8 : 6 ≤ (475460661270 * t) / 68719476736 ∧ (475460661270 * t) / 68719476736 ≤ 415 := ⟨by omega, by omega⟩
  generalize hq_q8 : (475460661270 * t) / 68719476736 = q8 at hb_q8 ⊢
  refine jT_xlconst (z := 1) (pcN := 60) jIS_47_59 rfl rfl ?_
  refine jT_xladd (x := q8) (y := 1) (z := q8 + 1) (pcN := 61) jIS_47_60 rfl (rfl) rfl ?_
  refine jT_xiconst (k := 2) (pcN := 62) jIS_47_61 rfl ?_
  refine jT_callA [] (y := 374) (pcN := 65) (dC := 1) (bc1 := 0) (bc2 := 0) (c1 := 0) (c2 := 0) (as := [(1, q8 + 1), (0, 2)]) (asC := [(1, q8 + 1), (0, 2)]) (LN := [(3, (0, 4)), (0, (4, 0)), (1, (4, 1)), (2, (0, t))]) (stN := [(0, 4), (4, 1)]) (hsC := []) (ex := []) (v := (1, (q8 + 1) / 2)) (st2 := [(1, (q8 + 1) / 2), (0, 4), (4, 1)]) (hs2 := [(8, [(4, 2), (4, 3)], []), (101, [], [q1, q3, q5, q7, u12_4, u12_5]), jgh, (101, [], [0, 0, 0, 0, 1, 0])]) (jS_374_66 (d := 0) (by omega)) (by rfl) (by rfl) (by rfl) (by rfl) trivial (by rfl) (by rfl) (by omega) (by show 4 ≤ 4; omega) (by omega) (by omega) rfl rfl ?_
  have hb_q9 : 3 ≤ (q8 + 1) / 2 ∧ (q8 + 1) / 2 ≤ 208 := ⟨by omega, by omega⟩
  generalize hq_q9 : (q8 + 1) / 2 = q9 at hb_q9 ⊢
  refine jT_adv 1 (pcN := 66) (LN := [(3, (0, 4)), (0, (4, 0)), (1, (4, 1)), (2, (0, t))]) (stN := []) (hsN := [(8, [(4, 2), (4, 3)], []), (101, [], [q1, q3, q5, q7, q9, u12_5]), jgh, (101, [], [0, 0, 0, 0, 1, 0])]) (c1 := 0) (s1 := 0) (c2 := 0) (s2 := 0) (by exact rfl) ?_ (by omega) (by omega)
  refine jT_xaload_n (v := (4, 0)) (pcN := 67) jIS_47_66 rfl rfl rfl ?_
  refine jT_xgetf (a := 0) (t := 1) (ci := 8) (fi := 1) (c := (8, [(4, 2), (4, 3)], [])) (v := (4, 3)) (pcN := 70) jIS_47_67 rfl rfl rfl rfl rfl rfl rfl ?_
  refine jT_xiload_n (v := (0, 4)) (pcN := 71) jIS_47_70 rfl rfl rfl ?_
  refine jT_xlconst (z := 0) (pcN := 72) jIS_47_71 rfl rfl ?_
  refine jT_adv 1 (pcN := 73) (LN := [(3, (0, 4)), (0, (4, 0)), (1, (4, 1)), (2, (0, t))]) (stN := []) (hsN := [(8, [(4, 2), (4, 3)], []), (101, [], [q1, q3, q5, q7, q9, u12_5]), jgh, (101, [], [0, 0, 0, 0, 0, 0])]) (c1 := 0) (s1 := 0) (c2 := 0) (s2 := 0) (by exact rfl) ?_ (by omega) (by omega)
  refine jT_xiinc (x := 4) (z := 5) (LN := [(3, (0, 5)), (0, (4, 0)), (1, (4, 1)), (2, (0, t))]) (pcN := 76) jIS_47_73 rfl rfl (by decide) rfl rfl ?_
  refine jT_xgoto (pcN := 23) jIS_47_76 rfl ?_
  refine jT_xiload_n (v := (0, 5)) (pcN := 24) jIS_47_23 rfl rfl rfl ?_
  refine jT_xbipush (k := 6) (pcN := 26) jIS_47_24 (by decide) rfl ?_
  refine jT_xicF (t := 79) (pcN := 29) jIS_47_26 rfl (by decide +kernel) rfl rfl ?_
  refine jT_xiload_n (v := (0, 5)) (pcN := 30) jIS_47_29 rfl rfl rfl ?_
  refine jT_xaload_n (v := (4, 1)) (pcN := 31) jIS_47_30 rfl rfl rfl ?_
  refine jT_adv 1 (pcN := 32) (LN := [(3, (0, 5)), (0, (4, 0)), (1, (4, 1)), (2, (0, t))]) (stN := [(0, 6), (0, 5)]) (hsN := [(8, [(4, 2), (4, 3)], []), (101, [], [q1, q3, q5, q7, q9, u12_5]), jgh, (101, [], [0, 0, 0, 0, 0, 0])]) (c1 := 0) (s1 := 0) (c2 := 0) (s2 := 0) (by exact rfl) ?_ (by omega) (by omega)
  refine jT_xicF (t := 79) (pcN := 35) jIS_47_32 rfl (by decide +kernel) rfl rfl ?_
  refine jT_xaload_n (v := (4, 0)) (pcN := 36) jIS_47_35 rfl rfl rfl ?_
  refine jT_xgetf (a := 0) (t := 1) (ci := 8) (fi := 1) (c := (8, [(4, 2), (4, 3)], [])) (v := (4, 3)) (pcN := 39) jIS_47_36 rfl rfl rfl rfl rfl rfl rfl ?_
  refine jT_xiload_n (v := (0, 5)) (pcN := 40) jIS_47_39 rfl rfl rfl ?_
  refine jT_xlconst (z := 1) (pcN := 41) jIS_47_40 rfl rfl ?_
  refine jT_adv 1 (pcN := 42) (LN := [(3, (0, 5)), (0, (4, 0)), (1, (4, 1)), (2, (0, t))]) (stN := []) (hsN := [(8, [(4, 2), (4, 3)], []), (101, [], [q1, q3, q5, q7, q9, u12_5]), jgh, (101, [], [0, 0, 0, 0, 0, 1])]) (c1 := 0) (s1 := 0) (c2 := 0) (s2 := 0) (by exact rfl) ?_ (by omega) (by omega)
  refine jT_xaload_n (v := (4, 1)) (pcN := 43) jIS_47_42 rfl rfl rfl ?_
  refine jT_xiload_n (v := (0, 5)) (pcN := 44) jIS_47_43 rfl rfl rfl ?_
  refine jT_xaload_n (v := (4, 0)) (pcN := 45) jIS_47_44 rfl rfl rfl ?_
  refine jT_xaload_n (v := (4, 0)) (pcN := 46) jIS_47_45 rfl rfl rfl ?_
  refine jT_xgetf (a := 0) (t := 1) (ci := 8) (fi := 1) (c := (8, [(4, 2), (4, 3)], [])) (v := (4, 3)) (pcN := 49) jIS_47_46 rfl rfl rfl rfl rfl rfl rfl ?_
  refine jT_xlconst (z := 1) (pcN := 50) jIS_47_49 rfl rfl ?_
  refine jT_adv 1 (pcN := 53) (LN := [(3, (0, 5)), (0, (4, 0)), (1, (4, 1)), (2, (0, t))]) (stN := [(1, 2), (1, 1), (4, 3), (4, 0), (0, 5), (4, 1)]) (hsN := [(8, [(4, 2), (4, 3)], []), (101, [], [q1, q3, q5, q7, q9, u12_5]), jgh, (101, [], [0, 0, 0, 0, 0, 1])]) (c1 := 0) (s1 := 0) (c2 := 0) (s2 := 0) (by exact rfl) ?_ (by omega) (by omega)
  refine jT_xiload_n (v := (0, t)) (pcN := 54) jIS_47_53 rfl rfl rfl ?_
  refine jT_xi2l (x := t) (z := t) (pcN := 55) jIS_47_54 rfl (jw_idd (by omega) (by omega)) rfl ?_
  refine jT_xlmul (x := 2) (y := t) (z := 2 * t) (pcN := 56) jIS_47_55 rfl (rfl) rfl ?_
  refine jT_callA [0, 3, 2] (y := 45) (pcN := 59) (dC := 1) (bc1 := 0) (bc2 := 0) (c1 := 0) (c2 := 0) (as := [(4, 0), (4, 3), (1, 1), (1, 2 * t)]) (asC := [(4, 0), (4, 1), (1, 1), (1, 2 * t)]) (LN := [(3, (0, 5)), (0, (4, 0)), (1, (4, 1)), (2, (0, t))]) (stN := [(0, 5), (4, 1)]) (hsC := [(8, [(4, 2), (4, 1)], []), (101, [], [0, 0, 0, 0, 0, 1]), jgh]) (ex := []) (v := (1, (508584562244 * t) / 68719476736)) (st2 := [(1, (508584562244 * t) / 68719476736), (0, 5), (4, 1)]) (hs2 := [(8, [(4, 2), (4, 3)], []), (101, [], [q1, q3, q5, q7, q9, u12_5]), jgh, (101, [], [0, 0, 0, 0, 0, 1])]) (jS_45_70 (d := 0) (by omega) (by omega)) (by rfl) (by rfl) (by rfl) (by rfl) ⟨rfl, rfl, rfl, trivial⟩ (by rfl) (by rfl) (by omega) (by show 4 ≤ 4; omega) (by omega) (by omega) rfl rfl ?_
  have hb_q10 : 7 ≤ (508584562244 * t) / 68719476736 ∧ (508584562244 * t) / 68719476736 ≤ 444 := ⟨by omega, by omega⟩
  generalize hq_q10 : (508584562244 * t) / 68719476736 = q10 at hb_q10 ⊢
  refine jT_xlconst (z := 1) (pcN := 60) jIS_47_59 rfl rfl ?_
  refine jT_xladd (x := q10) (y := 1) (z := q10 + 1) (pcN := 61) jIS_47_60 rfl (rfl) rfl ?_
  refine jT_xiconst (k := 2) (pcN := 62) jIS_47_61 rfl ?_
  refine jT_callA [] (y := 374) (pcN := 65) (dC := 1) (bc1 := 0) (bc2 := 0) (c1 := 0) (c2 := 0) (as := [(1, q10 + 1), (0, 2)]) (asC := [(1, q10 + 1), (0, 2)]) (LN := [(3, (0, 5)), (0, (4, 0)), (1, (4, 1)), (2, (0, t))]) (stN := [(0, 5), (4, 1)]) (hsC := []) (ex := []) (v := (1, (q10 + 1) / 2)) (st2 := [(1, (q10 + 1) / 2), (0, 5), (4, 1)]) (hs2 := [(8, [(4, 2), (4, 3)], []), (101, [], [q1, q3, q5, q7, q9, u12_5]), jgh, (101, [], [0, 0, 0, 0, 0, 1])]) (jS_374_71 (d := 0) (by omega)) (by rfl) (by rfl) (by rfl) (by rfl) trivial (by rfl) (by rfl) (by omega) (by show 4 ≤ 4; omega) (by omega) (by omega) rfl rfl ?_
  have hb_q11 : 4 ≤ (q10 + 1) / 2 ∧ (q10 + 1) / 2 ≤ 222 := ⟨by omega, by omega⟩
  generalize hq_q11 : (q10 + 1) / 2 = q11 at hb_q11 ⊢
  refine jT_adv 1 (pcN := 66) (LN := [(3, (0, 5)), (0, (4, 0)), (1, (4, 1)), (2, (0, t))]) (stN := []) (hsN := [(8, [(4, 2), (4, 3)], []), (101, [], [q1, q3, q5, q7, q9, q11]), jgh, (101, [], [0, 0, 0, 0, 0, 1])]) (c1 := 0) (s1 := 0) (c2 := 0) (s2 := 0) (by exact rfl) ?_ (by omega) (by omega)
  refine jT_xaload_n (v := (4, 0)) (pcN := 67) jIS_47_66 rfl rfl rfl ?_
  refine jT_xgetf (a := 0) (t := 1) (ci := 8) (fi := 1) (c := (8, [(4, 2), (4, 3)], [])) (v := (4, 3)) (pcN := 70) jIS_47_67 rfl rfl rfl rfl rfl rfl rfl ?_
  refine jT_xiload_n (v := (0, 5)) (pcN := 71) jIS_47_70 rfl rfl rfl ?_
  refine jT_xlconst (z := 0) (pcN := 72) jIS_47_71 rfl rfl ?_
  refine jT_adv 1 (pcN := 73) (LN := [(3, (0, 5)), (0, (4, 0)), (1, (4, 1)), (2, (0, t))]) (stN := []) (hsN := [(8, [(4, 2), (4, 3)], []), (101, [], [q1, q3, q5, q7, q9, q11]), jgh, (101, [], [0, 0, 0, 0, 0, 0])]) (c1 := 0) (s1 := 0) (c2 := 0) (s2 := 0) (by exact rfl) ?_ (by omega) (by omega)
  refine jT_xiinc (x := 5) (z := 6) (LN := [(3, (0, 6)), (0, (4, 0)), (1, (4, 1)), (2, (0, t))]) (pcN := 76) jIS_47_73 rfl rfl (by decide) rfl rfl ?_
  refine jT_xgoto (pcN := 23) jIS_47_76 rfl ?_
  refine jT_xiload_n (v := (0, 6)) (pcN := 24) jIS_47_23 rfl rfl rfl ?_
  refine jT_xbipush (k := 6) (pcN := 26) jIS_47_24 (by decide) rfl ?_
  refine jT_xicT (pcN := 79) jIS_47_26 rfl (by decide +kernel) rfl ?_
  subst hq_q11
  subst hq_q10
  subst hq_q9
  subst hq_q8
  subst hq_q7
  subst hq_q6
  subst hq_q5
  subst hq_q4
  subst hq_q3
  subst hq_q2
  subst hq_q1
  exact jT_ret rfl (by decide) (by show 4 ≤ 4; omega) (by omega) (by omega) ⟨rfl, rfl, rfl⟩
theorem jS_325_245 {xs : List Int} {d : Nat} {k309_0 k309_1 k309_2 k309_3 k309_4 k309_5 t y4 : Int} (h_k309_0 : 1 ≤ k309_0 ∧ k309_0 ≤ 4001) (h_k309_1 : 1 ≤ k309_1 ∧ k309_1 ≤ 4001) (h_k309_2 : 1 ≤ k309_2 ∧ k309_2 ≤ 4001) (h_k309_3 : 1 ≤ k309_3 ∧ k309_3 ≤ 4001) (h_k309_4 : 1 ≤ k309_4 ∧ k309_4 ≤ 4001) (h_k309_5 : 1 ≤ k309_5 ∧ k309_5 ≤ 4001) (h_t : 0 ≤ t ∧ t ≤ 7) (h_y4 : 0 ≤ y4 ∧ y4 ≤ 7) (g_0 : t - 8 < 0) : jT xs d 325 17 0 [(0, (4, 0)), (1, (0, y4)), (2, (0, t)), (3, (4, 1))] [] [jzS_251, (100, [], [k309_0, k309_1, k309_2, k309_3, k309_4, k309_5]), (100, [], jS0), jgh, jgh, jgh, jgh, jgh, jgh, jgh, jgh, jgh, jgh, jgh, jgh, jgh, jgh] 0 0 (fun k v hsN => k = 0 ∧ v = (0, 1) ∧ hsN = [jzS_251, (100, [], [k309_0, k309_1, k309_2, k309_3, k309_4, k309_5]), (100, [], jS0), jgh, jgh, jgh, jgh, jgh, jgh, jgh, jgh, jgh, jgh, jgh, jgh, jgh, jgh] ++ []) := by
  refine jT_xiconst (k := 0) (pcN := 1) jIS_325_0 rfl ?_
  refine jT_xistore (v := (0, 0)) (LN := [(4, (0, 0)), (0, (4, 0)), (1, (0, y4)), (2, (0, t)), (3, (4, 1))]) (pcN := 3) jIS_325_1 rfl rfl rfl rfl ?_
  refine jT_xiconst (k := 0) (pcN := 4) jIS_325_3 rfl ?_
  refine jT_xistore (v := (0, 0)) (LN := [(5, (0, 0)), (4, (0, 0)), (0, (4, 0)), (1, (0, y4)), (2, (0, t)), (3, (4, 1))]) (pcN := 6) jIS_325_4 rfl rfl rfl rfl ?_
  refine jT_xiconst (k := 0) (pcN := 7) jIS_325_6 rfl ?_
  refine jT_xistore (v := (0, 0)) (LN := [(6, (0, 0)), (5, (0, 0)), (4, (0, 0)), (0, (4, 0)), (1, (0, y4)), (2, (0, t)), (3, (4, 1))]) (pcN := 9) jIS_325_7 rfl rfl rfl rfl ?_
  refine jT_xiconst (k := 0) (pcN := 10) jIS_325_9 rfl ?_
  refine jT_xistore (v := (0, 0)) (LN := [(7, (0, 0)), (6, (0, 0)), (5, (0, 0)), (4, (0, 0)), (0, (4, 0)), (1, (0, y4)), (2, (0, t)), (3, (4, 1))]) (pcN := 12) jIS_325_10 rfl rfl rfl rfl ?_
  refine jT_xiload (v := (0, 0)) (pcN := 14) jIS_325_12 rfl rfl rfl ?_
  refine jT_xbipush (k := 6) (pcN := 16) jIS_325_14 (by decide) rfl ?_
  refine jT_xicF (t := 104) (pcN := 19) jIS_325_16 rfl (by decide +kernel) rfl rfl ?_
  refine jT_xiload (v := (0, 0)) (pcN := 21) jIS_325_19 rfl rfl rfl ?_
  refine jT_xaload_n (v := (4, 0)) (pcN := 22) jIS_325_21 rfl rfl rfl ?_
  refine jT_xgetf (a := 0) (t := 1) (ci := 14) (fi := 1) (c := jzS_251) (v := (4, 2)) (pcN := 25) jIS_325_22 rfl rfl rfl rfl rfl rfl rfl ?_
  refine jT_xbipush (k := 7) (pcN := 27) jIS_325_25 (by decide) rfl ?_
  refine jT_xiload_n (v := (0, y4)) (pcN := 28) jIS_325_27 rfl rfl rfl ?_
  refine jT_ximul (x := 7) (y := y4) (z := 7 * y4) (pcN := 29) jIS_325_28 rfl (rfl) rfl ?_
  refine jT_xiload (v := (0, 0)) (pcN := 31) jIS_325_29 rfl rfl rfl ?_
  refine jT_xiadd (x := 7 * y4) (y := 0) (z := 7 * y4) (pcN := 32) jIS_325_31 rfl (by omega) rfl ?_
  refine jT_iald (x := 0) (a := 2) (j := (7 * y4).toNat) (fs := []) (X := jS0) (by rfl) (by rfl) (by rfl) (jw_nn (by omega) (by omega)) (jS0_r0 (by omega) (by omega)) ?_
  refine jT_eq (LN := [(7, (0, 0)), (6, (0, 0)), (5, (0, 0)), (4, (0, 0)), (0, (4, 0)), (1, (0, y4)), (2, (0, t)), (3, (4, 1))]) (stN := [(0, 0), (0, 0)]) (hsN := [jzS_251, (100, [], [k309_0, k309_1, k309_2, k309_3, k309_4, k309_5]), (100, [], jS0), jgh, jgh, jgh, jgh, jgh, jgh, jgh, jgh, jgh, jgh, jgh, jgh, jgh, jgh]) rfl rfl rfl ?_
  refine jT_xaload_n (v := (4, 1)) (pcN := 34) jIS_325_33 rfl rfl rfl ?_
  refine jT_xiload (v := (0, 0)) (pcN := 36) jIS_325_34 rfl rfl rfl ?_
  refine jT_iald (x := k309_0) (a := 1) (j := 0) (fs := []) (X := [k309_0, k309_1, k309_2, k309_3, k309_4, k309_5]) jIS_325_36 rfl rfl rfl rfl ?_
  refine jT_eq (LN := [(7, (0, 0)), (6, (0, 0)), (5, (0, 0)), (4, (0, 0)), (0, (4, 0)), (1, (0, y4)), (2, (0, t)), (3, (4, 1))]) (stN := [(0, k309_0), (0, 0), (0, 0)]) (hsN := [jzS_251, (100, [], [k309_0, k309_1, k309_2, k309_3, k309_4, k309_5]), (100, [], jS0), jgh, jgh, jgh, jgh, jgh, jgh, jgh, jgh, jgh, jgh, jgh, jgh, jgh, jgh]) rfl rfl rfl ?_
  refine jT_ximul (x := 0) (y := k309_0) (z := 0) (pcN := 38) jIS_325_37 rfl (by omega) rfl ?_
  refine jT_xiadd (x := 0) (y := 0) (z := 0) (pcN := 39) jIS_325_38 rfl (by decide) rfl ?_
  refine jT_xistore (v := (0, 0)) (LN := [(4, (0, 0)), (7, (0, 0)), (6, (0, 0)), (5, (0, 0)), (0, (4, 0)), (1, (0, y4)), (2, (0, t)), (3, (4, 1))]) (pcN := 41) jIS_325_39 rfl rfl rfl rfl ?_
  refine jT_xiload (v := (0, 0)) (pcN := 43) jIS_325_41 rfl rfl rfl ?_
  refine jT_xaload_n (v := (4, 0)) (pcN := 44) jIS_325_43 rfl rfl rfl ?_
  refine jT_xgetf (a := 0) (t := 1) (ci := 14) (fi := 1) (c := jzS_251) (v := (4, 2)) (pcN := 47) jIS_325_44 rfl rfl rfl rfl rfl rfl rfl ?_
  refine jT_xbipush (k := 7) (pcN := 49) jIS_325_47 (by decide) rfl ?_
  refine jT_xiload_n (v := (0, t)) (pcN := 50) jIS_325_49 rfl rfl rfl ?_
  refine jT_ximul (x := 7) (y := t) (z := 7 * t) (pcN := 51) jIS_325_50 rfl (rfl) rfl ?_
  refine jT_xiload (v := (0, 0)) (pcN := 53) jIS_325_51 rfl rfl rfl ?_
  refine jT_xiadd (x := 7 * t) (y := 0) (z := 7 * t) (pcN := 54) jIS_325_53 rfl (by omega) rfl ?_
  refine jT_iald (x := 0) (a := 2) (j := (7 * t).toNat) (fs := []) (X := jS0) (by rfl) (by rfl) (by rfl) (jw_nn (by omega) (by omega)) (jS0_r0 (by omega) (by omega)) ?_
  refine jT_eq (LN := [(4, (0, 0)), (7, (0, 0)), (6, (0, 0)), (5, (0, 0)), (0, (4, 0)), (1, (0, y4)), (2, (0, t)), (3, (4, 1))]) (stN := [(0, 0), (0, 0)]) (hsN := [jzS_251, (100, [], [k309_0, k309_1, k309_2, k309_3, k309_4, k309_5]), (100, [], jS0), jgh, jgh, jgh, jgh, jgh, jgh, jgh, jgh, jgh, jgh, jgh, jgh, jgh, jgh]) rfl rfl rfl ?_
  refine jT_xaload_n (v := (4, 1)) (pcN := 56) jIS_325_55 rfl rfl rfl ?_
  refine jT_xiload (v := (0, 0)) (pcN := 58) jIS_325_56 rfl rfl rfl ?_
  refine jT_iald (x := k309_0) (a := 1) (j := 0) (fs := []) (X := [k309_0, k309_1, k309_2, k309_3, k309_4, k309_5]) jIS_325_58 rfl rfl rfl rfl ?_
  refine jT_eq (LN := [(4, (0, 0)), (7, (0, 0)), (6, (0, 0)), (5, (0, 0)), (0, (4, 0)), (1, (0, y4)), (2, (0, t)), (3, (4, 1))]) (stN := [(0, k309_0), (0, 0), (0, 0)]) (hsN := [jzS_251, (100, [], [k309_0, k309_1, k309_2, k309_3, k309_4, k309_5]), (100, [], jS0), jgh, jgh, jgh, jgh, jgh, jgh, jgh, jgh, jgh, jgh, jgh, jgh, jgh, jgh]) rfl rfl rfl ?_
  refine jT_ximul (x := 0) (y := k309_0) (z := 0) (pcN := 60) jIS_325_59 rfl (by omega) rfl ?_
  refine jT_xiadd (x := 0) (y := 0) (z := 0) (pcN := 61) jIS_325_60 rfl (by decide) rfl ?_
  refine jT_xistore (v := (0, 0)) (LN := [(5, (0, 0)), (4, (0, 0)), (7, (0, 0)), (6, (0, 0)), (0, (4, 0)), (1, (0, y4)), (2, (0, t)), (3, (4, 1))]) (pcN := 63) jIS_325_61 rfl rfl rfl rfl ?_
  refine jT_xiload (v := (0, 0)) (pcN := 65) jIS_325_63 rfl rfl rfl ?_
  refine jT_xaload_n (v := (4, 0)) (pcN := 66) jIS_325_65 rfl rfl rfl ?_
  refine jT_xgetf (a := 0) (t := 1) (ci := 14) (fi := 1) (c := jzS_251) (v := (4, 2)) (pcN := 69) jIS_325_66 rfl rfl rfl rfl rfl rfl rfl ?_
  refine jT_xbipush (k := 7) (pcN := 71) jIS_325_69 (by decide) rfl ?_
  refine jT_xiload_n (v := (0, y4)) (pcN := 72) jIS_325_71 rfl rfl rfl ?_
  refine jT_ximul (x := 7) (y := y4) (z := 7 * y4) (pcN := 73) jIS_325_72 rfl (rfl) rfl ?_
  refine jT_xiload (v := (0, 0)) (pcN := 75) jIS_325_73 rfl rfl rfl ?_
  refine jT_xiadd (x := 7 * y4) (y := 0) (z := 7 * y4) (pcN := 76) jIS_325_75 rfl (by omega) rfl ?_
  refine jT_iald (x := 0) (a := 2) (j := (7 * y4).toNat) (fs := []) (X := jS0) (by rfl) (by rfl) (by rfl) (jw_nn (by omega) (by omega)) (jS0_r0 (by omega) (by omega)) ?_
  refine jT_eq (LN := [(5, (0, 0)), (4, (0, 0)), (7, (0, 0)), (6, (0, 0)), (0, (4, 0)), (1, (0, y4)), (2, (0, t)), (3, (4, 1))]) (stN := [(0, 0), (0, 0)]) (hsN := [jzS_251, (100, [], [k309_0, k309_1, k309_2, k309_3, k309_4, k309_5]), (100, [], jS0), jgh, jgh, jgh, jgh, jgh, jgh, jgh, jgh, jgh, jgh, jgh, jgh, jgh, jgh]) rfl rfl rfl ?_
  refine jT_xaload_n (v := (4, 0)) (pcN := 78) jIS_325_77 rfl rfl rfl ?_
  refine jT_xgetf (a := 0) (t := 1) (ci := 14) (fi := 1) (c := jzS_251) (v := (4, 2)) (pcN := 81) jIS_325_78 rfl rfl rfl rfl rfl rfl rfl ?_
  refine jT_xbipush (k := 7) (pcN := 83) jIS_325_81 (by decide) rfl ?_
  refine jT_xiload_n (v := (0, t)) (pcN := 84) jIS_325_83 rfl rfl rfl ?_
  refine jT_ximul (x := 7) (y := t) (z := 7 * t) (pcN := 85) jIS_325_84 rfl (rfl) rfl ?_
  refine jT_xiload (v := (0, 0)) (pcN := 87) jIS_325_85 rfl rfl rfl ?_
  refine jT_xiadd (x := 7 * t) (y := 0) (z := 7 * t) (pcN := 88) jIS_325_87 rfl (by omega) rfl ?_
  refine jT_iald (x := 0) (a := 2) (j := (7 * t).toNat) (fs := []) (X := jS0) (by rfl) (by rfl) (by rfl) (jw_nn (by omega) (by omega)) (jS0_r0 (by omega) (by omega)) ?_
  refine jT_eq (LN := [(5, (0, 0)), (4, (0, 0)), (7, (0, 0)), (6, (0, 0)), (0, (4, 0)), (1, (0, y4)), (2, (0, t)), (3, (4, 1))]) (stN := [(0, 0), (0, 0), (0, 0)]) (hsN := [jzS_251, (100, [], [k309_0, k309_1, k309_2, k309_3, k309_4, k309_5]), (100, [], jS0), jgh, jgh, jgh, jgh, jgh, jgh, jgh, jgh, jgh, jgh, jgh, jgh, jgh, jgh]) rfl rfl rfl ?_
  refine jT_xiadd (x := 0) (y := 0) (z := 0) (pcN := 90) jIS_325_89 rfl (by decide) rfl ?_
  refine jT_xaload_n (v := (4, 1)) (pcN := 91) jIS_325_90 rfl rfl rfl ?_
  refine jT_xiload (v := (0, 0)) (pcN := 93) jIS_325_91 rfl rfl rfl ?_
  refine jT_iald (x := k309_0) (a := 1) (j := 0) (fs := []) (X := [k309_0, k309_1, k309_2, k309_3, k309_4, k309_5]) jIS_325_93 rfl rfl rfl rfl ?_
  refine jT_eq (LN := [(5, (0, 0)), (4, (0, 0)), (7, (0, 0)), (6, (0, 0)), (0, (4, 0)), (1, (0, y4)), (2, (0, t)), (3, (4, 1))]) (stN := [(0, k309_0), (0, 0), (0, 0)]) (hsN := [jzS_251, (100, [], [k309_0, k309_1, k309_2, k309_3, k309_4, k309_5]), (100, [], jS0), jgh, jgh, jgh, jgh, jgh, jgh, jgh, jgh, jgh, jgh, jgh, jgh, jgh, jgh]) rfl rfl rfl ?_
  refine jT_ximul (x := 0) (y := k309_0) (z := 0) (pcN := 95) jIS_325_94 rfl (by omega) rfl ?_
  refine jT_xiadd (x := 0) (y := 0) (z := 0) (pcN := 96) jIS_325_95 rfl (by decide) rfl ?_
  refine jT_xistore (v := (0, 0)) (LN := [(6, (0, 0)), (5, (0, 0)), (4, (0, 0)), (7, (0, 0)), (0, (4, 0)), (1, (0, y4)), (2, (0, t)), (3, (4, 1))]) (pcN := 98) jIS_325_96 rfl rfl rfl rfl ?_
  refine jT_xiinc (x := 0) (z := 1) (LN := [(7, (0, 1)), (6, (0, 0)), (5, (0, 0)), (4, (0, 0)), (0, (4, 0)), (1, (0, y4)), (2, (0, t)), (3, (4, 1))]) (pcN := 101) jIS_325_98 rfl rfl (by decide) rfl rfl ?_
  refine jT_xgoto (pcN := 12) jIS_325_101 rfl ?_
  refine jT_xiload (v := (0, 1)) (pcN := 14) jIS_325_12 rfl rfl rfl ?_
  refine jT_xbipush (k := 6) (pcN := 16) jIS_325_14 (by decide) rfl ?_
  refine jT_xicF (t := 104) (pcN := 19) jIS_325_16 rfl (by decide +kernel) rfl rfl ?_
  refine jT_xiload (v := (0, 0)) (pcN := 21) jIS_325_19 rfl rfl rfl ?_
  refine jT_xaload_n (v := (4, 0)) (pcN := 22) jIS_325_21 rfl rfl rfl ?_
  refine jT_xgetf (a := 0) (t := 1) (ci := 14) (fi := 1) (c := jzS_251) (v := (4, 2)) (pcN := 25) jIS_325_22 rfl rfl rfl rfl rfl rfl rfl ?_
  refine jT_xbipush (k := 7) (pcN := 27) jIS_325_25 (by decide) rfl ?_
  refine jT_xiload_n (v := (0, y4)) (pcN := 28) jIS_325_27 rfl rfl rfl ?_
  refine jT_ximul (x := 7) (y := y4) (z := 7 * y4) (pcN := 29) jIS_325_28 rfl (rfl) rfl ?_
  refine jT_xiload (v := (0, 1)) (pcN := 31) jIS_325_29 rfl rfl rfl ?_
  refine jT_xiadd (x := 7 * y4) (y := 1) (z := 7 * y4 + 1) (pcN := 32) jIS_325_31 rfl (by omega) rfl ?_
  refine jT_iald (x := 0) (a := 2) (j := (7 * y4 + 1).toNat) (fs := []) (X := jS0) (by rfl) (by rfl) (by rfl) (jw_nn (by omega) (by omega)) (jS0_r1 (by omega) (by omega)) ?_
  refine jT_eq (LN := [(7, (0, 1)), (6, (0, 0)), (5, (0, 0)), (4, (0, 0)), (0, (4, 0)), (1, (0, y4)), (2, (0, t)), (3, (4, 1))]) (stN := [(0, 0), (0, 0)]) (hsN := [jzS_251, (100, [], [k309_0, k309_1, k309_2, k309_3, k309_4, k309_5]), (100, [], jS0), jgh, jgh, jgh, jgh, jgh, jgh, jgh, jgh, jgh, jgh, jgh, jgh, jgh, jgh]) rfl rfl rfl ?_
  refine jT_xaload_n (v := (4, 1)) (pcN := 34) jIS_325_33 rfl rfl rfl ?_
  refine jT_xiload (v := (0, 1)) (pcN := 36) jIS_325_34 rfl rfl rfl ?_
  refine jT_iald (x := k309_1) (a := 1) (j := 1) (fs := []) (X := [k309_0, k309_1, k309_2, k309_3, k309_4, k309_5]) jIS_325_36 rfl rfl rfl rfl ?_
  refine jT_eq (LN := [(7, (0, 1)), (6, (0, 0)), (5, (0, 0)), (4, (0, 0)), (0, (4, 0)), (1, (0, y4)), (2, (0, t)), (3, (4, 1))]) (stN := [(0, k309_1), (0, 0), (0, 0)]) (hsN := [jzS_251, (100, [], [k309_0, k309_1, k309_2, k309_3, k309_4, k309_5]), (100, [], jS0), jgh, jgh, jgh, jgh, jgh, jgh, jgh, jgh, jgh, jgh, jgh, jgh, jgh, jgh]) rfl rfl rfl ?_
  refine jT_ximul (x := 0) (y := k309_1) (z := 0) (pcN := 38) jIS_325_37 rfl (by omega) rfl ?_
  refine jT_xiadd (x := 0) (y := 0) (z := 0) (pcN := 39) jIS_325_38 rfl (by decide) rfl ?_
  refine jT_xistore (v := (0, 0)) (LN := [(4, (0, 0)), (7, (0, 1)), (6, (0, 0)), (5, (0, 0)), (0, (4, 0)), (1, (0, y4)), (2, (0, t)), (3, (4, 1))]) (pcN := 41) jIS_325_39 rfl rfl rfl rfl ?_
  refine jT_xiload (v := (0, 0)) (pcN := 43) jIS_325_41 rfl rfl rfl ?_
  refine jT_xaload_n (v := (4, 0)) (pcN := 44) jIS_325_43 rfl rfl rfl ?_
  refine jT_xgetf (a := 0) (t := 1) (ci := 14) (fi := 1) (c := jzS_251) (v := (4, 2)) (pcN := 47) jIS_325_44 rfl rfl rfl rfl rfl rfl rfl ?_
  refine jT_xbipush (k := 7) (pcN := 49) jIS_325_47 (by decide) rfl ?_
  refine jT_xiload_n (v := (0, t)) (pcN := 50) jIS_325_49 rfl rfl rfl ?_
  refine jT_ximul (x := 7) (y := t) (z := 7 * t) (pcN := 51) jIS_325_50 rfl (rfl) rfl ?_
  refine jT_xiload (v := (0, 1)) (pcN := 53) jIS_325_51 rfl rfl rfl ?_
  refine jT_xiadd (x := 7 * t) (y := 1) (z := 7 * t + 1) (pcN := 54) jIS_325_53 rfl (by omega) rfl ?_
  refine jT_iald (x := 0) (a := 2) (j := (7 * t + 1).toNat) (fs := []) (X := jS0) (by rfl) (by rfl) (by rfl) (jw_nn (by omega) (by omega)) (jS0_r1 (by omega) (by omega)) ?_
  refine jT_eq (LN := [(4, (0, 0)), (7, (0, 1)), (6, (0, 0)), (5, (0, 0)), (0, (4, 0)), (1, (0, y4)), (2, (0, t)), (3, (4, 1))]) (stN := [(0, 0), (0, 0)]) (hsN := [jzS_251, (100, [], [k309_0, k309_1, k309_2, k309_3, k309_4, k309_5]), (100, [], jS0), jgh, jgh, jgh, jgh, jgh, jgh, jgh, jgh, jgh, jgh, jgh, jgh, jgh, jgh]) rfl rfl rfl ?_
  refine jT_xaload_n (v := (4, 1)) (pcN := 56) jIS_325_55 rfl rfl rfl ?_
  refine jT_xiload (v := (0, 1)) (pcN := 58) jIS_325_56 rfl rfl rfl ?_
  refine jT_iald (x := k309_1) (a := 1) (j := 1) (fs := []) (X := [k309_0, k309_1, k309_2, k309_3, k309_4, k309_5]) jIS_325_58 rfl rfl rfl rfl ?_
  refine jT_eq (LN := [(4, (0, 0)), (7, (0, 1)), (6, (0, 0)), (5, (0, 0)), (0, (4, 0)), (1, (0, y4)), (2, (0, t)), (3, (4, 1))]) (stN := [(0, k309_1), (0, 0), (0, 0)]) (hsN := [jzS_251, (100, [], [k309_0, k309_1, k309_2, k309_3, k309_4, k309_5]), (100, [], jS0), jgh, jgh, jgh, jgh, jgh, jgh, jgh, jgh, jgh, jgh, jgh, jgh, jgh, jgh]) rfl rfl rfl ?_
  refine jT_ximul (x := 0) (y := k309_1) (z := 0) (pcN := 60) jIS_325_59 rfl (by omega) rfl ?_
  refine jT_xiadd (x := 0) (y := 0) (z := 0) (pcN := 61) jIS_325_60 rfl (by decide) rfl ?_
  refine jT_xistore (v := (0, 0)) (LN := [(5, (0, 0)), (4, (0, 0)), (7, (0, 1)), (6, (0, 0)), (0, (4, 0)), (1, (0, y4)), (2, (0, t)), (3, (4, 1))]) (pcN := 63) jIS_325_61 rfl rfl rfl rfl ?_
  refine jT_xiload (v := (0, 0)) (pcN := 65) jIS_325_63 rfl rfl rfl ?_
  refine jT_xaload_n (v := (4, 0)) (pcN := 66) jIS_325_65 rfl rfl rfl ?_
  refine jT_xgetf (a := 0) (t := 1) (ci := 14) (fi := 1) (c := jzS_251) (v := (4, 2)) (pcN := 69) jIS_325_66 rfl rfl rfl rfl rfl rfl rfl ?_
  refine jT_xbipush (k := 7) (pcN := 71) jIS_325_69 (by decide) rfl ?_
  refine jT_xiload_n (v := (0, y4)) (pcN := 72) jIS_325_71 rfl rfl rfl ?_
  refine jT_ximul (x := 7) (y := y4) (z := 7 * y4) (pcN := 73) jIS_325_72 rfl (rfl) rfl ?_
  refine jT_xiload (v := (0, 1)) (pcN := 75) jIS_325_73 rfl rfl rfl ?_
  refine jT_xiadd (x := 7 * y4) (y := 1) (z := 7 * y4 + 1) (pcN := 76) jIS_325_75 rfl (by omega) rfl ?_
  refine jT_iald (x := 0) (a := 2) (j := (7 * y4 + 1).toNat) (fs := []) (X := jS0) (by rfl) (by rfl) (by rfl) (jw_nn (by omega) (by omega)) (jS0_r1 (by omega) (by omega)) ?_
  refine jT_eq (LN := [(5, (0, 0)), (4, (0, 0)), (7, (0, 1)), (6, (0, 0)), (0, (4, 0)), (1, (0, y4)), (2, (0, t)), (3, (4, 1))]) (stN := [(0, 0), (0, 0)]) (hsN := [jzS_251, (100, [], [k309_0, k309_1, k309_2, k309_3, k309_4, k309_5]), (100, [], jS0), jgh, jgh, jgh, jgh, jgh, jgh, jgh, jgh, jgh, jgh, jgh, jgh, jgh, jgh]) rfl rfl rfl ?_
  refine jT_xaload_n (v := (4, 0)) (pcN := 78) jIS_325_77 rfl rfl rfl ?_
  refine jT_xgetf (a := 0) (t := 1) (ci := 14) (fi := 1) (c := jzS_251) (v := (4, 2)) (pcN := 81) jIS_325_78 rfl rfl rfl rfl rfl rfl rfl ?_
  refine jT_xbipush (k := 7) (pcN := 83) jIS_325_81 (by decide) rfl ?_
  refine jT_xiload_n (v := (0, t)) (pcN := 84) jIS_325_83 rfl rfl rfl ?_
  refine jT_ximul (x := 7) (y := t) (z := 7 * t) (pcN := 85) jIS_325_84 rfl (rfl) rfl ?_
  refine jT_xiload (v := (0, 1)) (pcN := 87) jIS_325_85 rfl rfl rfl ?_
  refine jT_xiadd (x := 7 * t) (y := 1) (z := 7 * t + 1) (pcN := 88) jIS_325_87 rfl (by omega) rfl ?_
  refine jT_iald (x := 0) (a := 2) (j := (7 * t + 1).toNat) (fs := []) (X := jS0) (by rfl) (by rfl) (by rfl) (jw_nn (by omega) (by omega)) (jS0_r1 (by omega) (by omega)) ?_
  refine jT_eq (LN := [(5, (0, 0)), (4, (0, 0)), (7, (0, 1)), (6, (0, 0)), (0, (4, 0)), (1, (0, y4)), (2, (0, t)), (3, (4, 1))]) (stN := [(0, 0), (0, 0), (0, 0)]) (hsN := [jzS_251, (100, [], [k309_0, k309_1, k309_2, k309_3, k309_4, k309_5]), (100, [], jS0), jgh, jgh, jgh, jgh, jgh, jgh, jgh, jgh, jgh, jgh, jgh, jgh, jgh, jgh]) rfl rfl rfl ?_
  refine jT_xiadd (x := 0) (y := 0) (z := 0) (pcN := 90) jIS_325_89 rfl (by decide) rfl ?_
  refine jT_xaload_n (v := (4, 1)) (pcN := 91) jIS_325_90 rfl rfl rfl ?_
  refine jT_xiload (v := (0, 1)) (pcN := 93) jIS_325_91 rfl rfl rfl ?_
  refine jT_iald (x := k309_1) (a := 1) (j := 1) (fs := []) (X := [k309_0, k309_1, k309_2, k309_3, k309_4, k309_5]) jIS_325_93 rfl rfl rfl rfl ?_
  refine jT_eq (LN := [(5, (0, 0)), (4, (0, 0)), (7, (0, 1)), (6, (0, 0)), (0, (4, 0)), (1, (0, y4)), (2, (0, t)), (3, (4, 1))]) (stN := [(0, k309_1), (0, 0), (0, 0)]) (hsN := [jzS_251, (100, [], [k309_0, k309_1, k309_2, k309_3, k309_4, k309_5]), (100, [], jS0), jgh, jgh, jgh, jgh, jgh, jgh, jgh, jgh, jgh, jgh, jgh, jgh, jgh, jgh]) rfl rfl rfl ?_
  refine jT_ximul (x := 0) (y := k309_1) (z := 0) (pcN := 95) jIS_325_94 rfl (by omega) rfl ?_
  refine jT_xiadd (x := 0) (y := 0) (z := 0) (pcN := 96) jIS_325_95 rfl (by decide) rfl ?_
  refine jT_xistore (v := (0, 0)) (LN := [(6, (0, 0)), (5, (0, 0)), (4, (0, 0)), (7, (0, 1)), (0, (4, 0)), (1, (0, y4)), (2, (0, t)), (3, (4, 1))]) (pcN := 98) jIS_325_96 rfl rfl rfl rfl ?_
  refine jT_xiinc (x := 1) (z := 2) (LN := [(7, (0, 2)), (6, (0, 0)), (5, (0, 0)), (4, (0, 0)), (0, (4, 0)), (1, (0, y4)), (2, (0, t)), (3, (4, 1))]) (pcN := 101) jIS_325_98 rfl rfl (by decide) rfl rfl ?_
  refine jT_xgoto (pcN := 12) jIS_325_101 rfl ?_
  refine jT_xiload (v := (0, 2)) (pcN := 14) jIS_325_12 rfl rfl rfl ?_
  refine jT_xbipush (k := 6) (pcN := 16) jIS_325_14 (by decide) rfl ?_
  refine jT_xicF (t := 104) (pcN := 19) jIS_325_16 rfl (by decide +kernel) rfl rfl ?_
  refine jT_xiload (v := (0, 0)) (pcN := 21) jIS_325_19 rfl rfl rfl ?_
  refine jT_xaload_n (v := (4, 0)) (pcN := 22) jIS_325_21 rfl rfl rfl ?_
  refine jT_xgetf (a := 0) (t := 1) (ci := 14) (fi := 1) (c := jzS_251) (v := (4, 2)) (pcN := 25) jIS_325_22 rfl rfl rfl rfl rfl rfl rfl ?_
  refine jT_xbipush (k := 7) (pcN := 27) jIS_325_25 (by decide) rfl ?_
  refine jT_xiload_n (v := (0, y4)) (pcN := 28) jIS_325_27 rfl rfl rfl ?_
  refine jT_ximul (x := 7) (y := y4) (z := 7 * y4) (pcN := 29) jIS_325_28 rfl (rfl) rfl ?_
  refine jT_xiload (v := (0, 2)) (pcN := 31) jIS_325_29 rfl rfl rfl ?_
  refine jT_xiadd (x := 7 * y4) (y := 2) (z := 7 * y4 + 2) (pcN := 32) jIS_325_31 rfl (by omega) rfl ?_
  refine jT_iald (x := 0) (a := 2) (j := (7 * y4 + 2).toNat) (fs := []) (X := jS0) (by rfl) (by rfl) (by rfl) (jw_nn (by omega) (by omega)) (jS0_r2 (by omega) (by omega)) ?_
  refine jT_eq (LN := [(7, (0, 2)), (6, (0, 0)), (5, (0, 0)), (4, (0, 0)), (0, (4, 0)), (1, (0, y4)), (2, (0, t)), (3, (4, 1))]) (stN := [(0, 0), (0, 0)]) (hsN := [jzS_251, (100, [], [k309_0, k309_1, k309_2, k309_3, k309_4, k309_5]), (100, [], jS0), jgh, jgh, jgh, jgh, jgh, jgh, jgh, jgh, jgh, jgh, jgh, jgh, jgh, jgh]) rfl rfl rfl ?_
  refine jT_xaload_n (v := (4, 1)) (pcN := 34) jIS_325_33 rfl rfl rfl ?_
  refine jT_xiload (v := (0, 2)) (pcN := 36) jIS_325_34 rfl rfl rfl ?_
  refine jT_iald (x := k309_2) (a := 1) (j := 2) (fs := []) (X := [k309_0, k309_1, k309_2, k309_3, k309_4, k309_5]) jIS_325_36 rfl rfl rfl rfl ?_
  refine jT_eq (LN := [(7, (0, 2)), (6, (0, 0)), (5, (0, 0)), (4, (0, 0)), (0, (4, 0)), (1, (0, y4)), (2, (0, t)), (3, (4, 1))]) (stN := [(0, k309_2), (0, 0), (0, 0)]) (hsN := [jzS_251, (100, [], [k309_0, k309_1, k309_2, k309_3, k309_4, k309_5]), (100, [], jS0), jgh, jgh, jgh, jgh, jgh, jgh, jgh, jgh, jgh, jgh, jgh, jgh, jgh, jgh]) rfl rfl rfl ?_
  refine jT_ximul (x := 0) (y := k309_2) (z := 0) (pcN := 38) jIS_325_37 rfl (by omega) rfl ?_
  refine jT_xiadd (x := 0) (y := 0) (z := 0) (pcN := 39) jIS_325_38 rfl (by decide) rfl ?_
  refine jT_xistore (v := (0, 0)) (LN := [(4, (0, 0)), (7, (0, 2)), (6, (0, 0)), (5, (0, 0)), (0, (4, 0)), (1, (0, y4)), (2, (0, t)), (3, (4, 1))]) (pcN := 41) jIS_325_39 rfl rfl rfl rfl ?_
  refine jT_xiload (v := (0, 0)) (pcN := 43) jIS_325_41 rfl rfl rfl ?_
  refine jT_xaload_n (v := (4, 0)) (pcN := 44) jIS_325_43 rfl rfl rfl ?_
  refine jT_xgetf (a := 0) (t := 1) (ci := 14) (fi := 1) (c := jzS_251) (v := (4, 2)) (pcN := 47) jIS_325_44 rfl rfl rfl rfl rfl rfl rfl ?_
  refine jT_xbipush (k := 7) (pcN := 49) jIS_325_47 (by decide) rfl ?_
  refine jT_xiload_n (v := (0, t)) (pcN := 50) jIS_325_49 rfl rfl rfl ?_
  refine jT_ximul (x := 7) (y := t) (z := 7 * t) (pcN := 51) jIS_325_50 rfl (rfl) rfl ?_
  refine jT_xiload (v := (0, 2)) (pcN := 53) jIS_325_51 rfl rfl rfl ?_
  refine jT_xiadd (x := 7 * t) (y := 2) (z := 7 * t + 2) (pcN := 54) jIS_325_53 rfl (by omega) rfl ?_
  refine jT_iald (x := 0) (a := 2) (j := (7 * t + 2).toNat) (fs := []) (X := jS0) (by rfl) (by rfl) (by rfl) (jw_nn (by omega) (by omega)) (jS0_r2 (by omega) (by omega)) ?_
  refine jT_eq (LN := [(4, (0, 0)), (7, (0, 2)), (6, (0, 0)), (5, (0, 0)), (0, (4, 0)), (1, (0, y4)), (2, (0, t)), (3, (4, 1))]) (stN := [(0, 0), (0, 0)]) (hsN := [jzS_251, (100, [], [k309_0, k309_1, k309_2, k309_3, k309_4, k309_5]), (100, [], jS0), jgh, jgh, jgh, jgh, jgh, jgh, jgh, jgh, jgh, jgh, jgh, jgh, jgh, jgh]) rfl rfl rfl ?_
  refine jT_xaload_n (v := (4, 1)) (pcN := 56) jIS_325_55 rfl rfl rfl ?_
  refine jT_xiload (v := (0, 2)) (pcN := 58) jIS_325_56 rfl rfl rfl ?_
  refine jT_iald (x := k309_2) (a := 1) (j := 2) (fs := []) (X := [k309_0, k309_1, k309_2, k309_3, k309_4, k309_5]) jIS_325_58 rfl rfl rfl rfl ?_
  refine jT_eq (LN := [(4, (0, 0)), (7, (0, 2)), (6, (0, 0)), (5, (0, 0)), (0, (4, 0)), (1, (0, y4)), (2, (0, t)), (3, (4, 1))]) (stN := [(0, k309_2), (0, 0), (0, 0)]) (hsN := [jzS_251, (100, [], [k309_0, k309_1, k309_2, k309_3, k309_4, k309_5]), (100, [], jS0), jgh, jgh, jgh, jgh, jgh, jgh, jgh, jgh, jgh, jgh, jgh, jgh, jgh, jgh]) rfl rfl rfl ?_
  refine jT_ximul (x := 0) (y := k309_2) (z := 0) (pcN := 60) jIS_325_59 rfl (by omega) rfl ?_
  refine jT_xiadd (x := 0) (y := 0) (z := 0) (pcN := 61) jIS_325_60 rfl (by decide) rfl ?_
  refine jT_xistore (v := (0, 0)) (LN := [(5, (0, 0)), (4, (0, 0)), (7, (0, 2)), (6, (0, 0)), (0, (4, 0)), (1, (0, y4)), (2, (0, t)), (3, (4, 1))]) (pcN := 63) jIS_325_61 rfl rfl rfl rfl ?_
  refine jT_xiload (v := (0, 0)) (pcN := 65) jIS_325_63 rfl rfl rfl ?_
  refine jT_xaload_n (v := (4, 0)) (pcN := 66) jIS_325_65 rfl rfl rfl ?_
  refine jT_xgetf (a := 0) (t := 1) (ci := 14) (fi := 1) (c := jzS_251) (v := (4, 2)) (pcN := 69) jIS_325_66 rfl rfl rfl rfl rfl rfl rfl ?_
  refine jT_xbipush (k := 7) (pcN := 71) jIS_325_69 (by decide) rfl ?_
  refine jT_xiload_n (v := (0, y4)) (pcN := 72) jIS_325_71 rfl rfl rfl ?_
  refine jT_ximul (x := 7) (y := y4) (z := 7 * y4) (pcN := 73) jIS_325_72 rfl (rfl) rfl ?_
  refine jT_xiload (v := (0, 2)) (pcN := 75) jIS_325_73 rfl rfl rfl ?_
  refine jT_xiadd (x := 7 * y4) (y := 2) (z := 7 * y4 + 2) (pcN := 76) jIS_325_75 rfl (by omega) rfl ?_
  refine jT_iald (x := 0) (a := 2) (j := (7 * y4 + 2).toNat) (fs := []) (X := jS0) (by rfl) (by rfl) (by rfl) (jw_nn (by omega) (by omega)) (jS0_r2 (by omega) (by omega)) ?_
  refine jT_eq (LN := [(5, (0, 0)), (4, (0, 0)), (7, (0, 2)), (6, (0, 0)), (0, (4, 0)), (1, (0, y4)), (2, (0, t)), (3, (4, 1))]) (stN := [(0, 0), (0, 0)]) (hsN := [jzS_251, (100, [], [k309_0, k309_1, k309_2, k309_3, k309_4, k309_5]), (100, [], jS0), jgh, jgh, jgh, jgh, jgh, jgh, jgh, jgh, jgh, jgh, jgh, jgh, jgh, jgh]) rfl rfl rfl ?_
  refine jT_xaload_n (v := (4, 0)) (pcN := 78) jIS_325_77 rfl rfl rfl ?_
  refine jT_xgetf (a := 0) (t := 1) (ci := 14) (fi := 1) (c := jzS_251) (v := (4, 2)) (pcN := 81) jIS_325_78 rfl rfl rfl rfl rfl rfl rfl ?_
  refine jT_xbipush (k := 7) (pcN := 83) jIS_325_81 (by decide) rfl ?_
  refine jT_xiload_n (v := (0, t)) (pcN := 84) jIS_325_83 rfl rfl rfl ?_
  refine jT_ximul (x := 7) (y := t) (z := 7 * t) (pcN := 85) jIS_325_84 rfl (rfl) rfl ?_
  refine jT_xiload (v := (0, 2)) (pcN := 87) jIS_325_85 rfl rfl rfl ?_
  refine jT_xiadd (x := 7 * t) (y := 2) (z := 7 * t + 2) (pcN := 88) jIS_325_87 rfl (by omega) rfl ?_
  refine jT_iald (x := 0) (a := 2) (j := (7 * t + 2).toNat) (fs := []) (X := jS0) (by rfl) (by rfl) (by rfl) (jw_nn (by omega) (by omega)) (jS0_r2 (by omega) (by omega)) ?_
  refine jT_eq (LN := [(5, (0, 0)), (4, (0, 0)), (7, (0, 2)), (6, (0, 0)), (0, (4, 0)), (1, (0, y4)), (2, (0, t)), (3, (4, 1))]) (stN := [(0, 0), (0, 0), (0, 0)]) (hsN := [jzS_251, (100, [], [k309_0, k309_1, k309_2, k309_3, k309_4, k309_5]), (100, [], jS0), jgh, jgh, jgh, jgh, jgh, jgh, jgh, jgh, jgh, jgh, jgh, jgh, jgh, jgh]) rfl rfl rfl ?_
  refine jT_xiadd (x := 0) (y := 0) (z := 0) (pcN := 90) jIS_325_89 rfl (by decide) rfl ?_
  refine jT_xaload_n (v := (4, 1)) (pcN := 91) jIS_325_90 rfl rfl rfl ?_
  refine jT_xiload (v := (0, 2)) (pcN := 93) jIS_325_91 rfl rfl rfl ?_
  refine jT_iald (x := k309_2) (a := 1) (j := 2) (fs := []) (X := [k309_0, k309_1, k309_2, k309_3, k309_4, k309_5]) jIS_325_93 rfl rfl rfl rfl ?_
  refine jT_eq (LN := [(5, (0, 0)), (4, (0, 0)), (7, (0, 2)), (6, (0, 0)), (0, (4, 0)), (1, (0, y4)), (2, (0, t)), (3, (4, 1))]) (stN := [(0, k309_2), (0, 0), (0, 0)]) (hsN := [jzS_251, (100, [], [k309_0, k309_1, k309_2, k309_3, k309_4, k309_5]), (100, [], jS0), jgh, jgh, jgh, jgh, jgh, jgh, jgh, jgh, jgh, jgh, jgh, jgh, jgh, jgh]) rfl rfl rfl ?_
  refine jT_ximul (x := 0) (y := k309_2) (z := 0) (pcN := 95) jIS_325_94 rfl (by omega) rfl ?_
  refine jT_xiadd (x := 0) (y := 0) (z := 0) (pcN := 96) jIS_325_95 rfl (by decide) rfl ?_
  refine jT_xistore (v := (0, 0)) (LN := [(6, (0, 0)), (5, (0, 0)), (4, (0, 0)), (7, (0, 2)), (0, (4, 0)), (1, (0, y4)), (2, (0, t)), (3, (4, 1))]) (pcN := 98) jIS_325_96 rfl rfl rfl rfl ?_
  refine jT_xiinc (x := 2) (z := 3) (LN := [(7, (0, 3)), (6, (0, 0)), (5, (0, 0)), (4, (0, 0)), (0, (4, 0)), (1, (0, y4)), (2, (0, t)), (3, (4, 1))]) (pcN := 101) jIS_325_98 rfl rfl (by decide) rfl rfl ?_
  refine jT_xgoto (pcN := 12) jIS_325_101 rfl ?_
  refine jT_xiload (v := (0, 3)) (pcN := 14) jIS_325_12 rfl rfl rfl ?_
  refine jT_xbipush (k := 6) (pcN := 16) jIS_325_14 (by decide) rfl ?_
  refine jT_xicF (t := 104) (pcN := 19) jIS_325_16 rfl (by decide +kernel) rfl rfl ?_
  refine jT_xiload (v := (0, 0)) (pcN := 21) jIS_325_19 rfl rfl rfl ?_
  refine jT_xaload_n (v := (4, 0)) (pcN := 22) jIS_325_21 rfl rfl rfl ?_
  refine jT_xgetf (a := 0) (t := 1) (ci := 14) (fi := 1) (c := jzS_251) (v := (4, 2)) (pcN := 25) jIS_325_22 rfl rfl rfl rfl rfl rfl rfl ?_
  refine jT_xbipush (k := 7) (pcN := 27) jIS_325_25 (by decide) rfl ?_
  refine jT_xiload_n (v := (0, y4)) (pcN := 28) jIS_325_27 rfl rfl rfl ?_
  refine jT_ximul (x := 7) (y := y4) (z := 7 * y4) (pcN := 29) jIS_325_28 rfl (rfl) rfl ?_
  refine jT_xiload (v := (0, 3)) (pcN := 31) jIS_325_29 rfl rfl rfl ?_
  refine jT_xiadd (x := 7 * y4) (y := 3) (z := 7 * y4 + 3) (pcN := 32) jIS_325_31 rfl (by omega) rfl ?_
  refine jT_iald (x := 0) (a := 2) (j := (7 * y4 + 3).toNat) (fs := []) (X := jS0) (by rfl) (by rfl) (by rfl) (jw_nn (by omega) (by omega)) (jS0_r3 (by omega) (by omega)) ?_
  refine jT_eq (LN := [(7, (0, 3)), (6, (0, 0)), (5, (0, 0)), (4, (0, 0)), (0, (4, 0)), (1, (0, y4)), (2, (0, t)), (3, (4, 1))]) (stN := [(0, 0), (0, 0)]) (hsN := [jzS_251, (100, [], [k309_0, k309_1, k309_2, k309_3, k309_4, k309_5]), (100, [], jS0), jgh, jgh, jgh, jgh, jgh, jgh, jgh, jgh, jgh, jgh, jgh, jgh, jgh, jgh]) rfl rfl rfl ?_
  refine jT_xaload_n (v := (4, 1)) (pcN := 34) jIS_325_33 rfl rfl rfl ?_
  refine jT_xiload (v := (0, 3)) (pcN := 36) jIS_325_34 rfl rfl rfl ?_
  refine jT_iald (x := k309_3) (a := 1) (j := 3) (fs := []) (X := [k309_0, k309_1, k309_2, k309_3, k309_4, k309_5]) jIS_325_36 rfl rfl rfl rfl ?_
  refine jT_eq (LN := [(7, (0, 3)), (6, (0, 0)), (5, (0, 0)), (4, (0, 0)), (0, (4, 0)), (1, (0, y4)), (2, (0, t)), (3, (4, 1))]) (stN := [(0, k309_3), (0, 0), (0, 0)]) (hsN := [jzS_251, (100, [], [k309_0, k309_1, k309_2, k309_3, k309_4, k309_5]), (100, [], jS0), jgh, jgh, jgh, jgh, jgh, jgh, jgh, jgh, jgh, jgh, jgh, jgh, jgh, jgh]) rfl rfl rfl ?_
  refine jT_ximul (x := 0) (y := k309_3) (z := 0) (pcN := 38) jIS_325_37 rfl (by omega) rfl ?_
  refine jT_xiadd (x := 0) (y := 0) (z := 0) (pcN := 39) jIS_325_38 rfl (by decide) rfl ?_
  refine jT_xistore (v := (0, 0)) (LN := [(4, (0, 0)), (7, (0, 3)), (6, (0, 0)), (5, (0, 0)), (0, (4, 0)), (1, (0, y4)), (2, (0, t)), (3, (4, 1))]) (pcN := 41) jIS_325_39 rfl rfl rfl rfl ?_
  refine jT_xiload (v := (0, 0)) (pcN := 43) jIS_325_41 rfl rfl rfl ?_
  refine jT_xaload_n (v := (4, 0)) (pcN := 44) jIS_325_43 rfl rfl rfl ?_
  refine jT_xgetf (a := 0) (t := 1) (ci := 14) (fi := 1) (c := jzS_251) (v := (4, 2)) (pcN := 47) jIS_325_44 rfl rfl rfl rfl rfl rfl rfl ?_
  refine jT_xbipush (k := 7) (pcN := 49) jIS_325_47 (by decide) rfl ?_
  refine jT_xiload_n (v := (0, t)) (pcN := 50) jIS_325_49 rfl rfl rfl ?_
  refine jT_ximul (x := 7) (y := t) (z := 7 * t) (pcN := 51) jIS_325_50 rfl (rfl) rfl ?_
  refine jT_xiload (v := (0, 3)) (pcN := 53) jIS_325_51 rfl rfl rfl ?_
  refine jT_xiadd (x := 7 * t) (y := 3) (z := 7 * t + 3) (pcN := 54) jIS_325_53 rfl (by omega) rfl ?_
  refine jT_iald (x := 0) (a := 2) (j := (7 * t + 3).toNat) (fs := []) (X := jS0) (by rfl) (by rfl) (by rfl) (jw_nn (by omega) (by omega)) (jS0_r3 (by omega) (by omega)) ?_
  refine jT_eq (LN := [(4, (0, 0)), (7, (0, 3)), (6, (0, 0)), (5, (0, 0)), (0, (4, 0)), (1, (0, y4)), (2, (0, t)), (3, (4, 1))]) (stN := [(0, 0), (0, 0)]) (hsN := [jzS_251, (100, [], [k309_0, k309_1, k309_2, k309_3, k309_4, k309_5]), (100, [], jS0), jgh, jgh, jgh, jgh, jgh, jgh, jgh, jgh, jgh, jgh, jgh, jgh, jgh, jgh]) rfl rfl rfl ?_
  refine jT_xaload_n (v := (4, 1)) (pcN := 56) jIS_325_55 rfl rfl rfl ?_
  refine jT_xiload (v := (0, 3)) (pcN := 58) jIS_325_56 rfl rfl rfl ?_
  refine jT_iald (x := k309_3) (a := 1) (j := 3) (fs := []) (X := [k309_0, k309_1, k309_2, k309_3, k309_4, k309_5]) jIS_325_58 rfl rfl rfl rfl ?_
  refine jT_eq (LN := [(4, (0, 0)), (7, (0, 3)), (6, (0, 0)), (5, (0, 0)), (0, (4, 0)), (1, (0, y4)), (2, (0, t)), (3, (4, 1))]) (stN := [(0, k309_3), (0, 0), (0, 0)]) (hsN := [jzS_251, (100, [], [k309_0, k309_1, k309_2, k309_3, k309_4, k309_5]), (100, [], jS0), jgh, jgh, jgh, jgh, jgh, jgh, jgh, jgh, jgh, jgh, jgh, jgh, jgh, jgh]) rfl rfl rfl ?_
  refine jT_ximul (x := 0) (y := k309_3) (z := 0) (pcN := 60) jIS_325_59 rfl (by omega) rfl ?_
  refine jT_xiadd (x := 0) (y := 0) (z := 0) (pcN := 61) jIS_325_60 rfl (by decide) rfl ?_
  refine jT_xistore (v := (0, 0)) (LN := [(5, (0, 0)), (4, (0, 0)), (7, (0, 3)), (6, (0, 0)), (0, (4, 0)), (1, (0, y4)), (2, (0, t)), (3, (4, 1))]) (pcN := 63) jIS_325_61 rfl rfl rfl rfl ?_
  refine jT_xiload (v := (0, 0)) (pcN := 65) jIS_325_63 rfl rfl rfl ?_
  refine jT_xaload_n (v := (4, 0)) (pcN := 66) jIS_325_65 rfl rfl rfl ?_
  refine jT_xgetf (a := 0) (t := 1) (ci := 14) (fi := 1) (c := jzS_251) (v := (4, 2)) (pcN := 69) jIS_325_66 rfl rfl rfl rfl rfl rfl rfl ?_
  refine jT_xbipush (k := 7) (pcN := 71) jIS_325_69 (by decide) rfl ?_
  refine jT_xiload_n (v := (0, y4)) (pcN := 72) jIS_325_71 rfl rfl rfl ?_
  refine jT_ximul (x := 7) (y := y4) (z := 7 * y4) (pcN := 73) jIS_325_72 rfl (rfl) rfl ?_
  refine jT_xiload (v := (0, 3)) (pcN := 75) jIS_325_73 rfl rfl rfl ?_
  refine jT_xiadd (x := 7 * y4) (y := 3) (z := 7 * y4 + 3) (pcN := 76) jIS_325_75 rfl (by omega) rfl ?_
  refine jT_iald (x := 0) (a := 2) (j := (7 * y4 + 3).toNat) (fs := []) (X := jS0) (by rfl) (by rfl) (by rfl) (jw_nn (by omega) (by omega)) (jS0_r3 (by omega) (by omega)) ?_
  refine jT_eq (LN := [(5, (0, 0)), (4, (0, 0)), (7, (0, 3)), (6, (0, 0)), (0, (4, 0)), (1, (0, y4)), (2, (0, t)), (3, (4, 1))]) (stN := [(0, 0), (0, 0)]) (hsN := [jzS_251, (100, [], [k309_0, k309_1, k309_2, k309_3, k309_4, k309_5]), (100, [], jS0), jgh, jgh, jgh, jgh, jgh, jgh, jgh, jgh, jgh, jgh, jgh, jgh, jgh, jgh]) rfl rfl rfl ?_
  refine jT_xaload_n (v := (4, 0)) (pcN := 78) jIS_325_77 rfl rfl rfl ?_
  refine jT_xgetf (a := 0) (t := 1) (ci := 14) (fi := 1) (c := jzS_251) (v := (4, 2)) (pcN := 81) jIS_325_78 rfl rfl rfl rfl rfl rfl rfl ?_
  refine jT_xbipush (k := 7) (pcN := 83) jIS_325_81 (by decide) rfl ?_
  refine jT_xiload_n (v := (0, t)) (pcN := 84) jIS_325_83 rfl rfl rfl ?_
  refine jT_ximul (x := 7) (y := t) (z := 7 * t) (pcN := 85) jIS_325_84 rfl (rfl) rfl ?_
  refine jT_xiload (v := (0, 3)) (pcN := 87) jIS_325_85 rfl rfl rfl ?_
  refine jT_xiadd (x := 7 * t) (y := 3) (z := 7 * t + 3) (pcN := 88) jIS_325_87 rfl (by omega) rfl ?_
  refine jT_iald (x := 0) (a := 2) (j := (7 * t + 3).toNat) (fs := []) (X := jS0) (by rfl) (by rfl) (by rfl) (jw_nn (by omega) (by omega)) (jS0_r3 (by omega) (by omega)) ?_
  refine jT_eq (LN := [(5, (0, 0)), (4, (0, 0)), (7, (0, 3)), (6, (0, 0)), (0, (4, 0)), (1, (0, y4)), (2, (0, t)), (3, (4, 1))]) (stN := [(0, 0), (0, 0), (0, 0)]) (hsN := [jzS_251, (100, [], [k309_0, k309_1, k309_2, k309_3, k309_4, k309_5]), (100, [], jS0), jgh, jgh, jgh, jgh, jgh, jgh, jgh, jgh, jgh, jgh, jgh, jgh, jgh, jgh]) rfl rfl rfl ?_
  refine jT_xiadd (x := 0) (y := 0) (z := 0) (pcN := 90) jIS_325_89 rfl (by decide) rfl ?_
  refine jT_xaload_n (v := (4, 1)) (pcN := 91) jIS_325_90 rfl rfl rfl ?_
  refine jT_xiload (v := (0, 3)) (pcN := 93) jIS_325_91 rfl rfl rfl ?_
  refine jT_iald (x := k309_3) (a := 1) (j := 3) (fs := []) (X := [k309_0, k309_1, k309_2, k309_3, k309_4, k309_5]) jIS_325_93 rfl rfl rfl rfl ?_
  refine jT_eq (LN := [(5, (0, 0)), (4, (0, 0)), (7, (0, 3)), (6, (0, 0)), (0, (4, 0)), (1, (0, y4)), (2, (0, t)), (3, (4, 1))]) (stN := [(0, k309_3), (0, 0), (0, 0)]) (hsN := [jzS_251, (100, [], [k309_0, k309_1, k309_2, k309_3, k309_4, k309_5]), (100, [], jS0), jgh, jgh, jgh, jgh, jgh, jgh, jgh, jgh, jgh, jgh, jgh, jgh, jgh, jgh]) rfl rfl rfl ?_
  refine jT_ximul (x := 0) (y := k309_3) (z := 0) (pcN := 95) jIS_325_94 rfl (by omega) rfl ?_
  refine jT_xiadd (x := 0) (y := 0) (z := 0) (pcN := 96) jIS_325_95 rfl (by decide) rfl ?_
  refine jT_xistore (v := (0, 0)) (LN := [(6, (0, 0)), (5, (0, 0)), (4, (0, 0)), (7, (0, 3)), (0, (4, 0)), (1, (0, y4)), (2, (0, t)), (3, (4, 1))]) (pcN := 98) jIS_325_96 rfl rfl rfl rfl ?_
  refine jT_xiinc (x := 3) (z := 4) (LN := [(7, (0, 4)), (6, (0, 0)), (5, (0, 0)), (4, (0, 0)), (0, (4, 0)), (1, (0, y4)), (2, (0, t)), (3, (4, 1))]) (pcN := 101) jIS_325_98 rfl rfl (by decide) rfl rfl ?_
  refine jT_xgoto (pcN := 12) jIS_325_101 rfl ?_
  refine jT_xiload (v := (0, 4)) (pcN := 14) jIS_325_12 rfl rfl rfl ?_
  refine jT_xbipush (k := 6) (pcN := 16) jIS_325_14 (by decide) rfl ?_
  refine jT_xicF (t := 104) (pcN := 19) jIS_325_16 rfl (by decide +kernel) rfl rfl ?_
  refine jT_xiload (v := (0, 0)) (pcN := 21) jIS_325_19 rfl rfl rfl ?_
  refine jT_xaload_n (v := (4, 0)) (pcN := 22) jIS_325_21 rfl rfl rfl ?_
  refine jT_xgetf (a := 0) (t := 1) (ci := 14) (fi := 1) (c := jzS_251) (v := (4, 2)) (pcN := 25) jIS_325_22 rfl rfl rfl rfl rfl rfl rfl ?_
  refine jT_xbipush (k := 7) (pcN := 27) jIS_325_25 (by decide) rfl ?_
  refine jT_xiload_n (v := (0, y4)) (pcN := 28) jIS_325_27 rfl rfl rfl ?_
  refine jT_ximul (x := 7) (y := y4) (z := 7 * y4) (pcN := 29) jIS_325_28 rfl (rfl) rfl ?_
  refine jT_xiload (v := (0, 4)) (pcN := 31) jIS_325_29 rfl rfl rfl ?_
  refine jT_xiadd (x := 7 * y4) (y := 4) (z := 7 * y4 + 4) (pcN := 32) jIS_325_31 rfl (by omega) rfl ?_
  refine jT_iald (x := 0) (a := 2) (j := (7 * y4 + 4).toNat) (fs := []) (X := jS0) (by rfl) (by rfl) (by rfl) (jw_nn (by omega) (by omega)) (jS0_r4 (by omega) (by omega)) ?_
  refine jT_eq (LN := [(7, (0, 4)), (6, (0, 0)), (5, (0, 0)), (4, (0, 0)), (0, (4, 0)), (1, (0, y4)), (2, (0, t)), (3, (4, 1))]) (stN := [(0, 0), (0, 0)]) (hsN := [jzS_251, (100, [], [k309_0, k309_1, k309_2, k309_3, k309_4, k309_5]), (100, [], jS0), jgh, jgh, jgh, jgh, jgh, jgh, jgh, jgh, jgh, jgh, jgh, jgh, jgh, jgh]) rfl rfl rfl ?_
  refine jT_xaload_n (v := (4, 1)) (pcN := 34) jIS_325_33 rfl rfl rfl ?_
  refine jT_xiload (v := (0, 4)) (pcN := 36) jIS_325_34 rfl rfl rfl ?_
  refine jT_iald (x := k309_4) (a := 1) (j := 4) (fs := []) (X := [k309_0, k309_1, k309_2, k309_3, k309_4, k309_5]) jIS_325_36 rfl rfl rfl rfl ?_
  refine jT_eq (LN := [(7, (0, 4)), (6, (0, 0)), (5, (0, 0)), (4, (0, 0)), (0, (4, 0)), (1, (0, y4)), (2, (0, t)), (3, (4, 1))]) (stN := [(0, k309_4), (0, 0), (0, 0)]) (hsN := [jzS_251, (100, [], [k309_0, k309_1, k309_2, k309_3, k309_4, k309_5]), (100, [], jS0), jgh, jgh, jgh, jgh, jgh, jgh, jgh, jgh, jgh, jgh, jgh, jgh, jgh, jgh]) rfl rfl rfl ?_
  refine jT_ximul (x := 0) (y := k309_4) (z := 0) (pcN := 38) jIS_325_37 rfl (by omega) rfl ?_
  refine jT_xiadd (x := 0) (y := 0) (z := 0) (pcN := 39) jIS_325_38 rfl (by decide) rfl ?_
  refine jT_xistore (v := (0, 0)) (LN := [(4, (0, 0)), (7, (0, 4)), (6, (0, 0)), (5, (0, 0)), (0, (4, 0)), (1, (0, y4)), (2, (0, t)), (3, (4, 1))]) (pcN := 41) jIS_325_39 rfl rfl rfl rfl ?_
  refine jT_xiload (v := (0, 0)) (pcN := 43) jIS_325_41 rfl rfl rfl ?_
  refine jT_xaload_n (v := (4, 0)) (pcN := 44) jIS_325_43 rfl rfl rfl ?_
  refine jT_xgetf (a := 0) (t := 1) (ci := 14) (fi := 1) (c := jzS_251) (v := (4, 2)) (pcN := 47) jIS_325_44 rfl rfl rfl rfl rfl rfl rfl ?_
  refine jT_xbipush (k := 7) (pcN := 49) jIS_325_47 (by decide) rfl ?_
  refine jT_xiload_n (v := (0, t)) (pcN := 50) jIS_325_49 rfl rfl rfl ?_
  refine jT_ximul (x := 7) (y := t) (z := 7 * t) (pcN := 51) jIS_325_50 rfl (rfl) rfl ?_
  refine jT_xiload (v := (0, 4)) (pcN := 53) jIS_325_51 rfl rfl rfl ?_
  refine jT_xiadd (x := 7 * t) (y := 4) (z := 7 * t + 4) (pcN := 54) jIS_325_53 rfl (by omega) rfl ?_
  refine jT_iald (x := 0) (a := 2) (j := (7 * t + 4).toNat) (fs := []) (X := jS0) (by rfl) (by rfl) (by rfl) (jw_nn (by omega) (by omega)) (jS0_r4 (by omega) (by omega)) ?_
  refine jT_eq (LN := [(4, (0, 0)), (7, (0, 4)), (6, (0, 0)), (5, (0, 0)), (0, (4, 0)), (1, (0, y4)), (2, (0, t)), (3, (4, 1))]) (stN := [(0, 0), (0, 0)]) (hsN := [jzS_251, (100, [], [k309_0, k309_1, k309_2, k309_3, k309_4, k309_5]), (100, [], jS0), jgh, jgh, jgh, jgh, jgh, jgh, jgh, jgh, jgh, jgh, jgh, jgh, jgh, jgh]) rfl rfl rfl ?_
  refine jT_xaload_n (v := (4, 1)) (pcN := 56) jIS_325_55 rfl rfl rfl ?_
  refine jT_xiload (v := (0, 4)) (pcN := 58) jIS_325_56 rfl rfl rfl ?_
  refine jT_iald (x := k309_4) (a := 1) (j := 4) (fs := []) (X := [k309_0, k309_1, k309_2, k309_3, k309_4, k309_5]) jIS_325_58 rfl rfl rfl rfl ?_
  refine jT_eq (LN := [(4, (0, 0)), (7, (0, 4)), (6, (0, 0)), (5, (0, 0)), (0, (4, 0)), (1, (0, y4)), (2, (0, t)), (3, (4, 1))]) (stN := [(0, k309_4), (0, 0), (0, 0)]) (hsN := [jzS_251, (100, [], [k309_0, k309_1, k309_2, k309_3, k309_4, k309_5]), (100, [], jS0), jgh, jgh, jgh, jgh, jgh, jgh, jgh, jgh, jgh, jgh, jgh, jgh, jgh, jgh]) rfl rfl rfl ?_
  refine jT_ximul (x := 0) (y := k309_4) (z := 0) (pcN := 60) jIS_325_59 rfl (by omega) rfl ?_
  refine jT_xiadd (x := 0) (y := 0) (z := 0) (pcN := 61) jIS_325_60 rfl (by decide) rfl ?_
  refine jT_xistore (v := (0, 0)) (LN := [(5, (0, 0)), (4, (0, 0)), (7, (0, 4)), (6, (0, 0)), (0, (4, 0)), (1, (0, y4)), (2, (0, t)), (3, (4, 1))]) (pcN := 63) jIS_325_61 rfl rfl rfl rfl ?_
  refine jT_xiload (v := (0, 0)) (pcN := 65) jIS_325_63 rfl rfl rfl ?_
  refine jT_xaload_n (v := (4, 0)) (pcN := 66) jIS_325_65 rfl rfl rfl ?_
  refine jT_xgetf (a := 0) (t := 1) (ci := 14) (fi := 1) (c := jzS_251) (v := (4, 2)) (pcN := 69) jIS_325_66 rfl rfl rfl rfl rfl rfl rfl ?_
  refine jT_xbipush (k := 7) (pcN := 71) jIS_325_69 (by decide) rfl ?_
  refine jT_xiload_n (v := (0, y4)) (pcN := 72) jIS_325_71 rfl rfl rfl ?_
  refine jT_ximul (x := 7) (y := y4) (z := 7 * y4) (pcN := 73) jIS_325_72 rfl (rfl) rfl ?_
  refine jT_xiload (v := (0, 4)) (pcN := 75) jIS_325_73 rfl rfl rfl ?_
  refine jT_xiadd (x := 7 * y4) (y := 4) (z := 7 * y4 + 4) (pcN := 76) jIS_325_75 rfl (by omega) rfl ?_
  refine jT_iald (x := 0) (a := 2) (j := (7 * y4 + 4).toNat) (fs := []) (X := jS0) (by rfl) (by rfl) (by rfl) (jw_nn (by omega) (by omega)) (jS0_r4 (by omega) (by omega)) ?_
  refine jT_eq (LN := [(5, (0, 0)), (4, (0, 0)), (7, (0, 4)), (6, (0, 0)), (0, (4, 0)), (1, (0, y4)), (2, (0, t)), (3, (4, 1))]) (stN := [(0, 0), (0, 0)]) (hsN := [jzS_251, (100, [], [k309_0, k309_1, k309_2, k309_3, k309_4, k309_5]), (100, [], jS0), jgh, jgh, jgh, jgh, jgh, jgh, jgh, jgh, jgh, jgh, jgh, jgh, jgh, jgh]) rfl rfl rfl ?_
  refine jT_xaload_n (v := (4, 0)) (pcN := 78) jIS_325_77 rfl rfl rfl ?_
  refine jT_xgetf (a := 0) (t := 1) (ci := 14) (fi := 1) (c := jzS_251) (v := (4, 2)) (pcN := 81) jIS_325_78 rfl rfl rfl rfl rfl rfl rfl ?_
  refine jT_xbipush (k := 7) (pcN := 83) jIS_325_81 (by decide) rfl ?_
  refine jT_xiload_n (v := (0, t)) (pcN := 84) jIS_325_83 rfl rfl rfl ?_
  refine jT_ximul (x := 7) (y := t) (z := 7 * t) (pcN := 85) jIS_325_84 rfl (rfl) rfl ?_
  refine jT_xiload (v := (0, 4)) (pcN := 87) jIS_325_85 rfl rfl rfl ?_
  refine jT_xiadd (x := 7 * t) (y := 4) (z := 7 * t + 4) (pcN := 88) jIS_325_87 rfl (by omega) rfl ?_
  refine jT_iald (x := 0) (a := 2) (j := (7 * t + 4).toNat) (fs := []) (X := jS0) (by rfl) (by rfl) (by rfl) (jw_nn (by omega) (by omega)) (jS0_r4 (by omega) (by omega)) ?_
  refine jT_eq (LN := [(5, (0, 0)), (4, (0, 0)), (7, (0, 4)), (6, (0, 0)), (0, (4, 0)), (1, (0, y4)), (2, (0, t)), (3, (4, 1))]) (stN := [(0, 0), (0, 0), (0, 0)]) (hsN := [jzS_251, (100, [], [k309_0, k309_1, k309_2, k309_3, k309_4, k309_5]), (100, [], jS0), jgh, jgh, jgh, jgh, jgh, jgh, jgh, jgh, jgh, jgh, jgh, jgh, jgh, jgh]) rfl rfl rfl ?_
  refine jT_xiadd (x := 0) (y := 0) (z := 0) (pcN := 90) jIS_325_89 rfl (by decide) rfl ?_
  refine jT_xaload_n (v := (4, 1)) (pcN := 91) jIS_325_90 rfl rfl rfl ?_
  refine jT_xiload (v := (0, 4)) (pcN := 93) jIS_325_91 rfl rfl rfl ?_
  refine jT_iald (x := k309_4) (a := 1) (j := 4) (fs := []) (X := [k309_0, k309_1, k309_2, k309_3, k309_4, k309_5]) jIS_325_93 rfl rfl rfl rfl ?_
  refine jT_eq (LN := [(5, (0, 0)), (4, (0, 0)), (7, (0, 4)), (6, (0, 0)), (0, (4, 0)), (1, (0, y4)), (2, (0, t)), (3, (4, 1))]) (stN := [(0, k309_4), (0, 0), (0, 0)]) (hsN := [jzS_251, (100, [], [k309_0, k309_1, k309_2, k309_3, k309_4, k309_5]), (100, [], jS0), jgh, jgh, jgh, jgh, jgh, jgh, jgh, jgh, jgh, jgh, jgh, jgh, jgh, jgh]) rfl rfl rfl ?_
  refine jT_ximul (x := 0) (y := k309_4) (z := 0) (pcN := 95) jIS_325_94 rfl (by omega) rfl ?_
  refine jT_xiadd (x := 0) (y := 0) (z := 0) (pcN := 96) jIS_325_95 rfl (by decide) rfl ?_
  refine jT_xistore (v := (0, 0)) (LN := [(6, (0, 0)), (5, (0, 0)), (4, (0, 0)), (7, (0, 4)), (0, (4, 0)), (1, (0, y4)), (2, (0, t)), (3, (4, 1))]) (pcN := 98) jIS_325_96 rfl rfl rfl rfl ?_
  refine jT_xiinc (x := 4) (z := 5) (LN := [(7, (0, 5)), (6, (0, 0)), (5, (0, 0)), (4, (0, 0)), (0, (4, 0)), (1, (0, y4)), (2, (0, t)), (3, (4, 1))]) (pcN := 101) jIS_325_98 rfl rfl (by decide) rfl rfl ?_
  refine jT_xgoto (pcN := 12) jIS_325_101 rfl ?_
  refine jT_xiload (v := (0, 5)) (pcN := 14) jIS_325_12 rfl rfl rfl ?_
  refine jT_xbipush (k := 6) (pcN := 16) jIS_325_14 (by decide) rfl ?_
  refine jT_xicF (t := 104) (pcN := 19) jIS_325_16 rfl (by decide +kernel) rfl rfl ?_
  refine jT_xiload (v := (0, 0)) (pcN := 21) jIS_325_19 rfl rfl rfl ?_
  refine jT_xaload_n (v := (4, 0)) (pcN := 22) jIS_325_21 rfl rfl rfl ?_
  refine jT_xgetf (a := 0) (t := 1) (ci := 14) (fi := 1) (c := jzS_251) (v := (4, 2)) (pcN := 25) jIS_325_22 rfl rfl rfl rfl rfl rfl rfl ?_
  refine jT_xbipush (k := 7) (pcN := 27) jIS_325_25 (by decide) rfl ?_
  refine jT_xiload_n (v := (0, y4)) (pcN := 28) jIS_325_27 rfl rfl rfl ?_
  refine jT_ximul (x := 7) (y := y4) (z := 7 * y4) (pcN := 29) jIS_325_28 rfl (rfl) rfl ?_
  refine jT_xiload (v := (0, 5)) (pcN := 31) jIS_325_29 rfl rfl rfl ?_
  refine jT_xiadd (x := 7 * y4) (y := 5) (z := 7 * y4 + 5) (pcN := 32) jIS_325_31 rfl (by omega) rfl ?_
  refine jT_iald (x := 0) (a := 2) (j := (7 * y4 + 5).toNat) (fs := []) (X := jS0) (by rfl) (by rfl) (by rfl) (jw_nn (by omega) (by omega)) (jS0_r5 (by omega) (by omega)) ?_
  refine jT_eq (LN := [(7, (0, 5)), (6, (0, 0)), (5, (0, 0)), (4, (0, 0)), (0, (4, 0)), (1, (0, y4)), (2, (0, t)), (3, (4, 1))]) (stN := [(0, 0), (0, 0)]) (hsN := [jzS_251, (100, [], [k309_0, k309_1, k309_2, k309_3, k309_4, k309_5]), (100, [], jS0), jgh, jgh, jgh, jgh, jgh, jgh, jgh, jgh, jgh, jgh, jgh, jgh, jgh, jgh]) rfl rfl rfl ?_
  refine jT_xaload_n (v := (4, 1)) (pcN := 34) jIS_325_33 rfl rfl rfl ?_
  refine jT_xiload (v := (0, 5)) (pcN := 36) jIS_325_34 rfl rfl rfl ?_
  refine jT_iald (x := k309_5) (a := 1) (j := 5) (fs := []) (X := [k309_0, k309_1, k309_2, k309_3, k309_4, k309_5]) jIS_325_36 rfl rfl rfl rfl ?_
  refine jT_eq (LN := [(7, (0, 5)), (6, (0, 0)), (5, (0, 0)), (4, (0, 0)), (0, (4, 0)), (1, (0, y4)), (2, (0, t)), (3, (4, 1))]) (stN := [(0, k309_5), (0, 0), (0, 0)]) (hsN := [jzS_251, (100, [], [k309_0, k309_1, k309_2, k309_3, k309_4, k309_5]), (100, [], jS0), jgh, jgh, jgh, jgh, jgh, jgh, jgh, jgh, jgh, jgh, jgh, jgh, jgh, jgh]) rfl rfl rfl ?_
  refine jT_ximul (x := 0) (y := k309_5) (z := 0) (pcN := 38) jIS_325_37 rfl (by omega) rfl ?_
  refine jT_xiadd (x := 0) (y := 0) (z := 0) (pcN := 39) jIS_325_38 rfl (by decide) rfl ?_
  refine jT_xistore (v := (0, 0)) (LN := [(4, (0, 0)), (7, (0, 5)), (6, (0, 0)), (5, (0, 0)), (0, (4, 0)), (1, (0, y4)), (2, (0, t)), (3, (4, 1))]) (pcN := 41) jIS_325_39 rfl rfl rfl rfl ?_
  refine jT_xiload (v := (0, 0)) (pcN := 43) jIS_325_41 rfl rfl rfl ?_
  refine jT_xaload_n (v := (4, 0)) (pcN := 44) jIS_325_43 rfl rfl rfl ?_
  refine jT_xgetf (a := 0) (t := 1) (ci := 14) (fi := 1) (c := jzS_251) (v := (4, 2)) (pcN := 47) jIS_325_44 rfl rfl rfl rfl rfl rfl rfl ?_
  refine jT_xbipush (k := 7) (pcN := 49) jIS_325_47 (by decide) rfl ?_
  refine jT_xiload_n (v := (0, t)) (pcN := 50) jIS_325_49 rfl rfl rfl ?_
  refine jT_ximul (x := 7) (y := t) (z := 7 * t) (pcN := 51) jIS_325_50 rfl (rfl) rfl ?_
  refine jT_xiload (v := (0, 5)) (pcN := 53) jIS_325_51 rfl rfl rfl ?_
  refine jT_xiadd (x := 7 * t) (y := 5) (z := 7 * t + 5) (pcN := 54) jIS_325_53 rfl (by omega) rfl ?_
  refine jT_iald (x := 0) (a := 2) (j := (7 * t + 5).toNat) (fs := []) (X := jS0) (by rfl) (by rfl) (by rfl) (jw_nn (by omega) (by omega)) (jS0_r5 (by omega) (by omega)) ?_
  refine jT_eq (LN := [(4, (0, 0)), (7, (0, 5)), (6, (0, 0)), (5, (0, 0)), (0, (4, 0)), (1, (0, y4)), (2, (0, t)), (3, (4, 1))]) (stN := [(0, 0), (0, 0)]) (hsN := [jzS_251, (100, [], [k309_0, k309_1, k309_2, k309_3, k309_4, k309_5]), (100, [], jS0), jgh, jgh, jgh, jgh, jgh, jgh, jgh, jgh, jgh, jgh, jgh, jgh, jgh, jgh]) rfl rfl rfl ?_
  refine jT_xaload_n (v := (4, 1)) (pcN := 56) jIS_325_55 rfl rfl rfl ?_
  refine jT_xiload (v := (0, 5)) (pcN := 58) jIS_325_56 rfl rfl rfl ?_
  refine jT_iald (x := k309_5) (a := 1) (j := 5) (fs := []) (X := [k309_0, k309_1, k309_2, k309_3, k309_4, k309_5]) jIS_325_58 rfl rfl rfl rfl ?_
  refine jT_eq (LN := [(4, (0, 0)), (7, (0, 5)), (6, (0, 0)), (5, (0, 0)), (0, (4, 0)), (1, (0, y4)), (2, (0, t)), (3, (4, 1))]) (stN := [(0, k309_5), (0, 0), (0, 0)]) (hsN := [jzS_251, (100, [], [k309_0, k309_1, k309_2, k309_3, k309_4, k309_5]), (100, [], jS0), jgh, jgh, jgh, jgh, jgh, jgh, jgh, jgh, jgh, jgh, jgh, jgh, jgh, jgh]) rfl rfl rfl ?_
  refine jT_ximul (x := 0) (y := k309_5) (z := 0) (pcN := 60) jIS_325_59 rfl (by omega) rfl ?_
  refine jT_xiadd (x := 0) (y := 0) (z := 0) (pcN := 61) jIS_325_60 rfl (by decide) rfl ?_
  refine jT_xistore (v := (0, 0)) (LN := [(5, (0, 0)), (4, (0, 0)), (7, (0, 5)), (6, (0, 0)), (0, (4, 0)), (1, (0, y4)), (2, (0, t)), (3, (4, 1))]) (pcN := 63) jIS_325_61 rfl rfl rfl rfl ?_
  refine jT_xiload (v := (0, 0)) (pcN := 65) jIS_325_63 rfl rfl rfl ?_
  refine jT_xaload_n (v := (4, 0)) (pcN := 66) jIS_325_65 rfl rfl rfl ?_
  refine jT_xgetf (a := 0) (t := 1) (ci := 14) (fi := 1) (c := jzS_251) (v := (4, 2)) (pcN := 69) jIS_325_66 rfl rfl rfl rfl rfl rfl rfl ?_
  refine jT_xbipush (k := 7) (pcN := 71) jIS_325_69 (by decide) rfl ?_
  refine jT_xiload_n (v := (0, y4)) (pcN := 72) jIS_325_71 rfl rfl rfl ?_
  refine jT_ximul (x := 7) (y := y4) (z := 7 * y4) (pcN := 73) jIS_325_72 rfl (rfl) rfl ?_
  refine jT_xiload (v := (0, 5)) (pcN := 75) jIS_325_73 rfl rfl rfl ?_
  refine jT_xiadd (x := 7 * y4) (y := 5) (z := 7 * y4 + 5) (pcN := 76) jIS_325_75 rfl (by omega) rfl ?_
  refine jT_iald (x := 0) (a := 2) (j := (7 * y4 + 5).toNat) (fs := []) (X := jS0) (by rfl) (by rfl) (by rfl) (jw_nn (by omega) (by omega)) (jS0_r5 (by omega) (by omega)) ?_
  refine jT_eq (LN := [(5, (0, 0)), (4, (0, 0)), (7, (0, 5)), (6, (0, 0)), (0, (4, 0)), (1, (0, y4)), (2, (0, t)), (3, (4, 1))]) (stN := [(0, 0), (0, 0)]) (hsN := [jzS_251, (100, [], [k309_0, k309_1, k309_2, k309_3, k309_4, k309_5]), (100, [], jS0), jgh, jgh, jgh, jgh, jgh, jgh, jgh, jgh, jgh, jgh, jgh, jgh, jgh, jgh]) rfl rfl rfl ?_
  refine jT_xaload_n (v := (4, 0)) (pcN := 78) jIS_325_77 rfl rfl rfl ?_
  refine jT_xgetf (a := 0) (t := 1) (ci := 14) (fi := 1) (c := jzS_251) (v := (4, 2)) (pcN := 81) jIS_325_78 rfl rfl rfl rfl rfl rfl rfl ?_
  refine jT_xbipush (k := 7) (pcN := 83) jIS_325_81 (by decide) rfl ?_
  refine jT_xiload_n (v := (0, t)) (pcN := 84) jIS_325_83 rfl rfl rfl ?_
  refine jT_ximul (x := 7) (y := t) (z := 7 * t) (pcN := 85) jIS_325_84 rfl (rfl) rfl ?_
  refine jT_xiload (v := (0, 5)) (pcN := 87) jIS_325_85 rfl rfl rfl ?_
  refine jT_xiadd (x := 7 * t) (y := 5) (z := 7 * t + 5) (pcN := 88) jIS_325_87 rfl (by omega) rfl ?_
  refine jT_iald (x := 0) (a := 2) (j := (7 * t + 5).toNat) (fs := []) (X := jS0) (by rfl) (by rfl) (by rfl) (jw_nn (by omega) (by omega)) (jS0_r5 (by omega) (by omega)) ?_
  refine jT_eq (LN := [(5, (0, 0)), (4, (0, 0)), (7, (0, 5)), (6, (0, 0)), (0, (4, 0)), (1, (0, y4)), (2, (0, t)), (3, (4, 1))]) (stN := [(0, 0), (0, 0), (0, 0)]) (hsN := [jzS_251, (100, [], [k309_0, k309_1, k309_2, k309_3, k309_4, k309_5]), (100, [], jS0), jgh, jgh, jgh, jgh, jgh, jgh, jgh, jgh, jgh, jgh, jgh, jgh, jgh, jgh]) rfl rfl rfl ?_
  refine jT_xiadd (x := 0) (y := 0) (z := 0) (pcN := 90) jIS_325_89 rfl (by decide) rfl ?_
  refine jT_xaload_n (v := (4, 1)) (pcN := 91) jIS_325_90 rfl rfl rfl ?_
  refine jT_xiload (v := (0, 5)) (pcN := 93) jIS_325_91 rfl rfl rfl ?_
  refine jT_iald (x := k309_5) (a := 1) (j := 5) (fs := []) (X := [k309_0, k309_1, k309_2, k309_3, k309_4, k309_5]) jIS_325_93 rfl rfl rfl rfl ?_
  refine jT_eq (LN := [(5, (0, 0)), (4, (0, 0)), (7, (0, 5)), (6, (0, 0)), (0, (4, 0)), (1, (0, y4)), (2, (0, t)), (3, (4, 1))]) (stN := [(0, k309_5), (0, 0), (0, 0)]) (hsN := [jzS_251, (100, [], [k309_0, k309_1, k309_2, k309_3, k309_4, k309_5]), (100, [], jS0), jgh, jgh, jgh, jgh, jgh, jgh, jgh, jgh, jgh, jgh, jgh, jgh, jgh, jgh]) rfl rfl rfl ?_
  refine jT_ximul (x := 0) (y := k309_5) (z := 0) (pcN := 95) jIS_325_94 rfl (by omega) rfl ?_
  refine jT_xiadd (x := 0) (y := 0) (z := 0) (pcN := 96) jIS_325_95 rfl (by decide) rfl ?_
  refine jT_xistore (v := (0, 0)) (LN := [(6, (0, 0)), (5, (0, 0)), (4, (0, 0)), (7, (0, 5)), (0, (4, 0)), (1, (0, y4)), (2, (0, t)), (3, (4, 1))]) (pcN := 98) jIS_325_96 rfl rfl rfl rfl ?_
  refine jT_xiinc (x := 5) (z := 6) (LN := [(7, (0, 6)), (6, (0, 0)), (5, (0, 0)), (4, (0, 0)), (0, (4, 0)), (1, (0, y4)), (2, (0, t)), (3, (4, 1))]) (pcN := 101) jIS_325_98 rfl rfl (by decide) rfl rfl ?_
  refine jT_xgoto (pcN := 12) jIS_325_101 rfl ?_
  refine jT_xiload (v := (0, 6)) (pcN := 14) jIS_325_12 rfl rfl rfl ?_
  refine jT_xbipush (k := 6) (pcN := 16) jIS_325_14 (by decide) rfl ?_
  refine jT_xicT (pcN := 104) jIS_325_16 rfl (by decide +kernel) rfl ?_
  refine jT_xiload (v := (0, 0)) (pcN := 106) jIS_325_104 rfl rfl rfl ?_
  refine jT_xiload (v := (0, 0)) (pcN := 108) jIS_325_106 rfl rfl rfl ?_
  refine jT_xiload (v := (0, 0)) (pcN := 110) jIS_325_108 rfl rfl rfl ?_
  refine jT_xiadd (x := 0) (y := 0) (z := 0) (pcN := 111) jIS_325_110 rfl (by decide) rfl ?_
  refine jT_xicF (t := 118) (pcN := 114) jIS_325_111 rfl (by decide +kernel) rfl rfl ?_
  refine jT_xiconst (k := 1) (pcN := 115) jIS_325_114 rfl ?_
  refine jT_xgoto (pcN := 119) jIS_325_115 rfl ?_
  exact jT_ret rfl (by decide) (by show 17 ≤ 17; omega) (by omega) (by omega) ⟨rfl, rfl, rfl⟩
theorem jIS_379_3727 : jmI (jm 379) 3727 = (.aload_n 1, 1) := by rfl
def jzS_602 : JC := (13, [(4, 4), (4, 5), (4, 6), (4, 7), (4, 8), (4, 9), (4, 10), (4, 11), (4, 12), (4, 13), (0, 0), (4, 14), (0, 0)], [])
def jzS_603 : JC := (14, [(0, 0), (4, 15), (4, 16), (4, 17), (4, 18), (0, 0), (4, 19), (0, 0), (4, 20), (4, 21), (1, 1), (4, 22), (0, 0), (4, 23), (0, 0), (0, 0), (0, 0), (0, 0), (0, 0), (0, 0), (0, 0), (4, 24), (4, 25), (4, 26), (4, 27), (4, 28), (4, 29), (0, 0)], [])
def jzS_604 : JC := (9, [(4, 32), (4, 33), (4, 34), (4, 35), (4, 36)], [])
def jzS_605 : JC := (114, [], [43, 43, 43, 43, 43, 43, 43, 43])
def jpS_606 : List JC := [jzS_602, jzS_603, jgh, jgh, (8, [(4, 30), (4, 31)], []), jgh, jgh, jgh, jgh, jgh, jgh, jgh, jgh, jgh, jzS_604, (100, [], jS0), jgh, jgh, jgh, jgh, (130, [], [37, 38, 39, 40, 41, 42]), (101, [], [0, 0, 0, 0, 0, 0]), jgh, jgh, jgh, jgh, jgh, jgh, jgh, jgh, jgh, (101, [], [0, 0, 0, 0, 0, 0]), jzS_605, (117, [], [44, 45, 46, 47]), jgh, jgh, jgh, (100, [], (jenc (jlg 0))), (100, [], (jenc (jlg 1))), (100, [], (jenc (jlg 2))), (100, [], (jenc (jlg 3))), (100, [], (jenc (jlg 4))), (100, [], (jenc (jlg 5))), (4, [(4, 48), (1, 1)], []), (7, [(4, 49), (4, 54), (4, (-1))], []), (7, [(4, 50), (4, 63), (4, (-1))], []), (7, [(4, 51), (4, 72), (4, (-1))], []), (7, [(4, 52), (4, 81), (4, (-1))], []), (101, [], [0, 0, 0, 0, 0, 0]), (114, [], [43]), (114, [], [43]), (114, [], [43]), (114, [], [43]), (101, [], [1, 0, 0, 0, 0, 0]), (114, [], [58]), (101, [], [0, 0, 0, 0, 0, 0]), (4, [(4, 55), (1, 1)], []), (101, [], [1, 0, 0, 0, 0, 0]), (4, [(4, 57), (1, 1)], []), (4, [(4, 53), (1, 1)], []), (101, [], [1, 0, 0, 0, 0, 0]), (4, [(4, 60), (1, 1)], []), (101, [], [1, 0, 0, 0, 0, 0]), (114, [], [67]), (101, [], [0, 0, 0, 0, 0, 0]), (4, [(4, 64), (1, 1)], []), (101, [], [1, 0, 0, 0, 0, 0]), (4, [(4, 66), (1, 1)], []), (4, [(4, 62), (1, 1)], []), (101, [], [1, 0, 0, 0, 0, 0]), (4, [(4, 69), (1, 1)], []), (101, [], [1, 0, 0, 0, 0, 0]), (114, [], [76]), (101, [], [0, 0, 0, 0, 0, 0]), (4, [(4, 73), (1, 1)], []), (101, [], [1, 0, 0, 0, 0, 0]), (4, [(4, 75), (1, 1)], []), (4, [(4, 71), (1, 1)], []), (101, [], [1, 0, 0, 0, 0, 0]), (4, [(4, 78), (1, 1)], []), (101, [], [1, 0, 0, 0, 0, 0]), (114, [], [85]), (101, [], [0, 0, 0, 0, 0, 0]), (4, [(4, 82), (1, 1)], []), (101, [], [1, 0, 0, 0, 0, 0]), (4, [(4, 84), (1, 1)], []), (4, [(4, 80), (1, 1)], []), (101, [], [1, 0, 0, 0, 0, 0]), (4, [(4, 87), (1, 1)], []), (101, [], [0, 0, 0, 0, 0, 0]), (4, [(4, 89), (1, 1)], []), (101, [], [0, 0, 0, 0, 0, 0]), (4, [(4, 91), (1, 1)], []), (101, [], [0, 0, 0, 0, 0, 0]), (4, [(4, 93), (1, 1)], []), (101, [], [0, 0, 0, 0, 0, 0]), (4, [(4, 95), (1, 1)], []), (101, [], [0, 0, 0, 0, 0, 0]), (4, [(4, 97), (1, 1)], []), (101, [], [0, 0, 0, 0, 0, 0]), (4, [(4, 99), (1, 1)], []), (101, [], [0, 0, 0, 0, 0, 0]), (4, [(4, 101), (1, 1)], []), (101, [], [0, 0, 0, 0, 0, 0]), (4, [(4, 103), (1, 1)], [])]
theorem jIS_379_3731 : jmI (jm 379) 3731 = (.aload_n 2, 1) := by rfl
def jpS_608 : List JC := [jzS_602, jzS_603, jgh, jgh, (8, [(4, 30), (4, 31)], []), jgh, jgh, jgh, jgh, jgh, jgh, jgh, jgh, jgh, jzS_604, (100, [], jS0), jgh, jgh, jgh, jgh, (130, [], [37, 38, 39, 40, 41, 42]), (101, [], [0, 0, 0, 0, 0, 0]), jgh, jgh, jgh, jgh, jgh, jgh, jgh, jgh, jgh, (101, [], [0, 0, 0, 0, 0, 0]), jzS_605, (117, [], [44, 45, 46, 47]), jgh, jgh, jgh, (100, [], (jenc (jlg 0))), (100, [], (jenc (jlg 1))), (100, [], (jenc (jlg 2))), (100, [], (jenc (jlg 3))), (100, [], (jenc (jlg 4))), (100, [], (jenc (jlg 5))), (4, [(4, 48), (1, 1)], []), (7, [(4, 49), (4, 54), (4, (-1))], []), (7, [(4, 50), (4, 63), (4, (-1))], []), (7, [(4, 51), (4, 72), (4, (-1))], []), (7, [(4, 52), (4, 81), (4, (-1))], []), (101, [], [0, 0, 0, 0, 0, 0]), (114, [], [43]), (114, [], [43]), (114, [], [43]), (114, [], [43]), (101, [], [1, 0, 0, 0, 0, 0]), (114, [], [58]), (101, [], [0, 0, 0, 0, 0, 0]), (4, [(4, 55), (1, 1)], []), (101, [], [1, 0, 0, 0, 0, 0]), (4, [(4, 57), (1, 1)], []), (4, [(4, 53), (1, 1)], []), (101, [], [1, 0, 0, 0, 0, 0]), (4, [(4, 60), (1, 1)], []), (101, [], [1, 0, 0, 0, 0, 0]), (114, [], [67]), (101, [], [0, 0, 0, 0, 0, 0]), (4, [(4, 64), (1, 1)], []), (101, [], [1, 0, 0, 0, 0, 0]), (4, [(4, 66), (1, 1)], []), (4, [(4, 62), (1, 1)], []), (101, [], [1, 0, 0, 0, 0, 0]), (4, [(4, 69), (1, 1)], []), (101, [], [1, 0, 0, 0, 0, 0]), (114, [], [76]), (101, [], [0, 0, 0, 0, 0, 0]), (4, [(4, 73), (1, 1)], []), (101, [], [1, 0, 0, 0, 0, 0]), (4, [(4, 75), (1, 1)], []), (4, [(4, 71), (1, 1)], []), (101, [], [1, 0, 0, 0, 0, 0]), (4, [(4, 78), (1, 1)], []), (101, [], [1, 0, 0, 0, 0, 0]), (114, [], [85]), (101, [], [0, 0, 0, 0, 0, 0]), (4, [(4, 82), (1, 1)], []), (101, [], [1, 0, 0, 0, 0, 0]), (4, [(4, 84), (1, 1)], []), (4, [(4, 80), (1, 1)], []), (101, [], [1, 0, 0, 0, 0, 0]), (4, [(4, 87), (1, 1)], []), (101, [], [0, 0, 0, 0, 0, 0]), (4, [(4, 89), (1, 1)], []), (101, [], [0, 0, 0, 0, 0, 0]), (4, [(4, 91), (1, 1)], []), (101, [], [0, 0, 0, 0, 0, 0]), (4, [(4, 93), (1, 1)], []), (101, [], [0, 0, 0, 0, 0, 0]), (4, [(4, 95), (1, 1)], []), (101, [], [0, 0, 0, 0, 0, 0]), (4, [(4, 97), (1, 1)], []), (101, [], [0, 0, 0, 0, 0, 0]), (4, [(4, 99), (1, 1)], []), (101, [], [0, 0, 0, 0, 0, 0]), (4, [(4, 101), (1, 1)], []), (101, [], [0, 0, 0, 0, 0, 0]), (4, [(4, 103), (1, 1)], []), (101, [], [(-1), 0, 0, 0, 0, 0]), (100, [], (jenc 0)), (100, [], (jenc (-1))), (100, [], (jenc ((-1) * (jlg 0)))), (100, [], [1, 0, 0, 0, 0, 0, 1]), (101, [], [(-1), 0, 0, 0, 0, 0]), (100, [], (jenc 0)), (100, [], (jenc (-1))), (100, [], (jenc ((-1) * (jlg 0)))), (100, [], [1, 0, 0, 0, 0, 0, 1]), (101, [], [(-1), 0, 0, 0, 0, 0]), (100, [], (jenc 0)), (100, [], (jenc (-1))), (100, [], (jenc ((-1) * (jlg 0)))), (100, [], [1, 0, 0, 0, 0, 0, 1]), (101, [], [(-1), 0, 0, 0, 0, 0]), (100, [], (jenc 0)), (100, [], (jenc (-1))), (100, [], (jenc ((-1) * (jlg 0)))), (100, [], [1, 0, 0, 0, 0, 0, 1]), (101, [], [0, 0, 0, 0, 0, 0]), (101, [], [0, 0, 0, 0, 0, 0]), (101, [], [(-1), 0, 0, 0, 0, 0]), (100, [], (jenc 0)), (100, [], (jenc (-1))), (100, [], (jenc ((-1) * (jlg 0)))), (101, [], [0, 0, 0, 0, 0, 0]), (101, [], [0, 0, 0, 0, 0, 0]), (101, [], [(-1), 0, 0, 0, 0, 0]), (100, [], (jenc 0)), (100, [], (jenc (-1))), (100, [], (jenc ((-1) * (jlg 0)))), (101, [], [0, 0, 0, 0, 0, 0]), (101, [], [0, 0, 0, 0, 0, 0]), (101, [], [1, 0, 0, 0, 0, 0]), (101, [], [1, 0, 0, 0, 0, 0]), (100, [], (jenc 0)), (100, [], (jenc 1)), (100, [], (jenc (1 * (jlg 0)))), (101, [], [(-1), 0, 0, 0, 0, 0]), (100, [], (jenc 0)), (100, [], (jenc (-1))), (100, [], (jenc ((-1) * (jlg 0)))), (101, [], [0, 0, 0, 0, 0, 0]), (101, [], [0, 0, 0, 0, 0, 0]), (101, [], [(-1), 0, 0, 0, 0, 0]), (100, [], (jenc 0)), (100, [], (jenc (-1))), (100, [], (jenc ((-1) * (jlg 0)))), (101, [], [0, 0, 0, 0, 0, 0]), (101, [], [0, 0, 0, 0, 0, 0]), (101, [], [(-1), 0, 0, 0, 0, 0]), (100, [], (jenc 0)), (100, [], (jenc (-1))), (100, [], (jenc ((-1) * (jlg 0)))), (101, [], [0, 0, 0, 0, 0, 0]), (101, [], [0, 0, 0, 0, 0, 0]), (101, [], [1, 0, 0, 0, 0, 0]), (101, [], [1, 0, 0, 0, 0, 0]), (100, [], (jenc 0)), (100, [], (jenc 1)), (100, [], (jenc (1 * (jlg 0)))), (101, [], [(-1), 0, 0, 0, 0, 0]), (100, [], (jenc 0)), (100, [], (jenc (-1))), (100, [], (jenc ((-1) * (jlg 0)))), (101, [], [0, 0, 0, 0, 0, 0]), (101, [], [0, 0, 0, 0, 0, 0]), (101, [], [(-1), 0, 0, 0, 0, 0]), (100, [], (jenc 0)), (100, [], (jenc (-1))), (100, [], (jenc ((-1) * (jlg 0)))), (101, [], [0, 0, 0, 0, 0, 0]), (101, [], [0, 0, 0, 0, 0, 0]), (101, [], [(-1), 0, 0, 0, 0, 0]), (100, [], (jenc 0)), (100, [], (jenc (-1))), (100, [], (jenc ((-1) * (jlg 0)))), (101, [], [0, 0, 0, 0, 0, 0]), (101, [], [0, 0, 0, 0, 0, 0]), (101, [], [1, 0, 0, 0, 0, 0]), (101, [], [1, 0, 0, 0, 0, 0]), (100, [], (jenc 0)), (100, [], (jenc 1)), (100, [], (jenc (1 * (jlg 0)))), (101, [], [(-1), 0, 0, 0, 0, 0]), (100, [], (jenc 0)), (100, [], (jenc (-1))), (100, [], (jenc ((-1) * (jlg 0)))), (101, [], [0, 0, 0, 0, 0, 0]), (101, [], [0, 0, 0, 0, 0, 0]), (101, [], [(-1), 0, 0, 0, 0, 0]), (100, [], (jenc 0)), (100, [], (jenc (-1))), (100, [], (jenc ((-1) * (jlg 0)))), (101, [], [0, 0, 0, 0, 0, 0]), (101, [], [0, 0, 0, 0, 0, 0]), (101, [], [(-1), 0, 0, 0, 0, 0]), (100, [], (jenc 0)), (100, [], (jenc (-1))), (100, [], (jenc ((-1) * (jlg 0)))), (101, [], [0, 0, 0, 0, 0, 0]), (101, [], [0, 0, 0, 0, 0, 0]), (101, [], [1, 0, 0, 0, 0, 0]), (101, [], [1, 0, 0, 0, 0, 0]), (100, [], (jenc 0)), (100, [], (jenc 1)), (100, [], (jenc (1 * (jlg 0)))), (101, [], [(-1), 0, 0, 0, 0, 0]), (100, [], (jenc 0)), (100, [], (jenc (-1))), (100, [], (jenc ((-1) * (jlg 0)))), (101, [], [0, 0, 0, 0, 0, 0]), (101, [], [0, 0, 0, 0, 0, 0]), (101, [], [(-1), 0, 0, 0, 0, 0]), (100, [], (jenc 0)), (100, [], (jenc (-1))), (100, [], (jenc ((-1) * (jlg 0)))), (101, [], [0, 0, 0, 0, 0, 0]), (101, [], [0, 0, 0, 0, 0, 0]), (101, [], [(-1), 0, 0, 0, 0, 0]), (100, [], (jenc 0)), (100, [], (jenc (-1))), (100, [], (jenc ((-1) * (jlg 0)))), (101, [], [0, 0, 0, 0, 0, 0]), (101, [], [0, 0, 0, 0, 0, 0]), (101, [], [1, 0, 0, 0, 0, 0]), (101, [], [1, 0, 0, 0, 0, 0]), (100, [], (jenc 0)), (100, [], (jenc 1)), (100, [], (jenc (1 * (jlg 0)))), (101, [], [(-1), 0, 0, 0, 0, 0]), (100, [], (jenc 0)), (100, [], (jenc (-1))), (100, [], (jenc ((-1) * (jlg 0)))), (101, [], [0, 0, 0, 0, 0, 0]), (101, [], [0, 0, 0, 0, 0, 0]), (101, [], [(-1), 0, 0, 0, 0, 0]), (100, [], (jenc 0)), (100, [], (jenc (-1))), (100, [], (jenc ((-1) * (jlg 0)))), (101, [], [0, 0, 0, 0, 0, 0]), (101, [], [0, 0, 0, 0, 0, 0]), (101, [], [(-1), 0, 0, 0, 0, 0]), (100, [], (jenc 0)), (100, [], (jenc (-1))), (100, [], (jenc ((-1) * (jlg 0)))), (101, [], [0, 0, 0, 0, 0, 0]), (101, [], [0, 0, 0, 0, 0, 0]), (101, [], [1, 0, 0, 0, 0, 0]), (101, [], [1, 0, 0, 0, 0, 0]), (100, [], (jenc 0)), (100, [], (jenc 1)), (100, [], (jenc (1 * (jlg 0)))), (101, [], [(-1), 0, 0, 0, 0, 0]), (100, [], (jenc 0)), (100, [], (jenc (-1))), (100, [], (jenc ((-1) * (jlg 0)))), (101, [], [0, 0, 0, 0, 0, 0]), (101, [], [0, 0, 0, 0, 0, 0]), (101, [], [(-1), 0, 0, 0, 0, 0]), (100, [], (jenc 0)), (100, [], (jenc (-1))), (100, [], (jenc ((-1) * (jlg 0)))), (101, [], [0, 0, 0, 0, 0, 0]), (101, [], [0, 0, 0, 0, 0, 0]), (101, [], [(-1), 0, 0, 0, 0, 0]), (100, [], (jenc 0)), (100, [], (jenc (-1))), (100, [], (jenc ((-1) * (jlg 0)))), (101, [], [0, 0, 0, 0, 0, 0]), (101, [], [0, 0, 0, 0, 0, 0]), (101, [], [1, 0, 0, 0, 0, 0]), (101, [], [1, 0, 0, 0, 0, 0]), (100, [], (jenc 0)), (100, [], (jenc 1)), (100, [], (jenc (1 * (jlg 0)))), (101, [], [(-1), 0, 0, 0, 0, 0]), (100, [], (jenc 0)), (100, [], (jenc (-1))), (100, [], (jenc ((-1) * (jlg 0)))), (101, [], [0, 0, 0, 0, 0, 0]), (101, [], [0, 0, 0, 0, 0, 0]), (101, [], [(-1), 0, 0, 0, 0, 0]), (100, [], (jenc 0)), (100, [], (jenc (-1))), (100, [], (jenc ((-1) * (jlg 0)))), (101, [], [0, 0, 0, 0, 0, 0]), (101, [], [0, 0, 0, 0, 0, 0]), (101, [], [(-1), 0, 0, 0, 0, 0]), (100, [], (jenc 0)), (100, [], (jenc (-1))), (100, [], (jenc ((-1) * (jlg 0)))), (101, [], [0, 0, 0, 0, 0, 0]), (101, [], [0, 0, 0, 0, 0, 0]), (101, [], [1, 0, 0, 0, 0, 0]), (101, [], [1, 0, 0, 0, 0, 0]), (100, [], (jenc 0)), (100, [], (jenc 1)), (100, [], (jenc (1 * (jlg 0)))), (101, [], [(-1), 0, 0, 0, 0, 0]), (100, [], (jenc 0)), (100, [], (jenc (-1))), (100, [], (jenc ((-1) * (jlg 0)))), jgh]
theorem jIS_379_3735 : jmI (jm 379) 3735 = (.if_icmp .eq 5, 3) := by rfl
theorem jIS_379_3740 : jmI (jm 379) 3740 = (.iinc 5 5, 3) := by rfl
theorem jIS_379_3743 : jmI (jm 379) 3743 = (.goto (-3715), 3) := by rfl
theorem jIS_379_28 : jmI (jm 379) 28 = (.iload 5, 2) := by rfl
theorem jIS_379_30 : jmI (jm 379) 30 = (.aload_n 0, 1) := by rfl
theorem jIS_379_32 : jmI (jm 379) 32 = (.iconst 5, 1) := by rfl
theorem jIS_379_33 : jmI (jm 379) 33 = (.isub, 1) := by rfl
theorem jIS_379_34 : jmI (jm 379) 34 = (.if_icmp .gt 3712, 3) := by rfl
theorem jIS_379_3746 : jmI (jm 379) 3746 = (.iconst 1, 1) := by rfl
def jpS_618 : List JC := [jzS_602, jzS_603, jgh, jgh, (8, [(4, 30), (4, 31)], []), jgh, jgh, jgh, jgh, jgh, jgh, jgh, (101, [], [0, 0, 0, 0, 0, 0]), jgh, jzS_604, (100, [], jS0), jgh, jgh, jgh, jgh, (130, [], [37, 38, 39, 40, 41, 42]), (101, [], [0, 0, 0, 0, 0, 0]), jgh, jgh, jgh, jgh, jgh, jgh, jgh, jgh, jgh, (101, [], [0, 0, 0, 0, 0, 0]), jzS_605, (117, [], [44, 45, 46, 47]), jgh, jgh, jgh, (100, [], (jenc (jlg 0))), (100, [], (jenc (jlg 1))), (100, [], (jenc (jlg 2))), (100, [], (jenc (jlg 3))), (100, [], (jenc (jlg 4))), (100, [], (jenc (jlg 5))), (4, [(4, 48), (1, 1)], []), (7, [(4, 49), (4, (-1)), (4, (-1))], []), (7, [(4, 50), (4, (-1)), (4, (-1))], []), (7, [(4, 51), (4, (-1)), (4, (-1))], []), (7, [(4, 52), (4, (-1)), (4, (-1))], []), (101, [], [0, 0, 0, 0, 0, 0]), (114, [], [43]), (114, [], [43]), (114, [], [43]), (114, [], [43])]
set_option maxRecDepth 100000 in
theorem jL_53_0 {d : Nat} {x0 x1 x2 x3 x4 : Int} (h_x0 : (-2147483648) ≤ x0 ∧ x0 ≤ 2147483647) (h_x1 : (-2147483648) ≤ x1 ∧ x1 ≤ 2147483647) (h_x2 : (-2147483648) ≤ x2 ∧ x2 ≤ 2147483647) (h_x3 : (-2147483648) ≤ x3 ∧ x3 ≤ 2147483647) (h_x4 : (-2147483648) ≤ x4 ∧ x4 ≤ 2147483647) : jT [x0, x1, x2, x3, x4] (d + 11) 379 53 3727 [(5, (0, 0)), (4, (4, 3)), (3, (4, 2)), (2, (4, 1)), (1, (4, 0)), (0, (6, 0))] [] jpS_618 22577 1166750 (fun k v hsN => k = 0 ∧ v = (0, 1)) := by
  refine jT_xaload_n (v := (4, 0)) (pcN := 3728) jIS_379_3727 rfl rfl rfl ?_
  refine jT_fB [0, 4, 5, 6, 7, 8, 9, 10, 11, 12, 13, 14, 30, 31, 32, 33, 34, 35, 36, 43, 44, 45, 46, 47, 48, 49, 50, 51, 52] 53 (y := 109) (pcN := 3731) (dC := 6) (bc1 := 52) (bc2 := 196) (c1 := 22525) (c2 := 1166554) (as := [(4, 0)]) (asC := [(4, 0)]) (LN := [(5, (0, 0)), (4, (4, 3)), (3, (4, 2)), (2, (4, 1)), (1, (4, 0)), (0, (6, 0))]) (stN := []) (hsC := jpS_191) (hsD := jpS_243) (v := (0, 0)) (st2 := [(0, 0)]) (hs2 := jpS_606) (jS_109_77 (d := 0)) (by rfl) (by rfl) (by decide +kernel) (by rfl) (by rfl) (by omega) (by omega) (by omega) (by omega) rfl (by decide +kernel) ?_
  refine jT_xaload_n (v := (4, 1)) (pcN := 3732) jIS_379_3731 rfl rfl rfl ?_
  refine jT_fA [1, 15, 16, 17, 18, 19, 20, 21, 22, 23, 24, 25, 26, 27, 28, 29, 37, 38, 39, 40, 41, 42] 105 (y := 321) (pcN := 3735) (dC := 10) (bc1 := 22525) (bc2 := 1166554) (c1 := 0) (c2 := 0) (as := [(4, 1)]) (asC := [(4, 0)]) (LN := [(5, (0, 0)), (4, (4, 3)), (3, (4, 2)), (2, (4, 1)), (1, (4, 0)), (0, (6, 0))]) (stN := [(0, 0)]) (hsC := jpS_586) (ex := jpS_600) (v := (0, 0)) (st2 := [(0, 0), (0, 0)]) (hs2 := jpS_608) (jS_321_243 (d := 0)) (by rfl) (by rfl) (by decide +kernel) (by rfl) (by rfl) (by omega) (by omega) (by omega) (by omega) rfl (by decide +kernel) ?_
  refine jT_xicT (pcN := 3740) jIS_379_3735 rfl (by decide +kernel) rfl ?_
  refine jT_xiinc (x := 0) (z := 5) (LN := [(5, (0, 5)), (4, (4, 3)), (3, (4, 2)), (2, (4, 1)), (1, (4, 0)), (0, (6, 0))]) (pcN := 3743) jIS_379_3740 rfl rfl (by decide) rfl rfl ?_
  refine jT_xgoto (pcN := 28) jIS_379_3743 rfl ?_
  refine jT_xiload (v := (0, 5)) (pcN := 30) jIS_379_28 rfl rfl rfl ?_
  refine jT_xaload_n (v := (6, 0)) (pcN := 31) jIS_379_30 rfl rfl rfl ?_
  refine jT_adv 1 (pcN := 32) (LN := [(5, (0, 5)), (4, (4, 3)), (3, (4, 2)), (2, (4, 1)), (1, (4, 0)), (0, (6, 0))]) (stN := [(0, 5), (0, 5)]) (hsN := jpS_608) (c1 := 0) (s1 := 0) (c2 := 0) (s2 := 0) (by exact rfl) ?_ (by omega) (by omega)
  refine jT_xiconst (k := 5) (pcN := 33) jIS_379_32 rfl ?_
  refine jT_xisub (x := 5) (y := 5) (z := 0) (pcN := 34) jIS_379_33 rfl (by decide) rfl ?_
  refine jT_xicT (pcN := 3746) jIS_379_34 rfl (by decide +kernel) rfl ?_
  refine jT_xiconst (k := 1) (pcN := 3747) jIS_379_3746 rfl ?_
  exact jT_ret rfl (by decide) (by show 53 ≤ 310; decide) (by omega) (by omega) ⟨rfl, rfl⟩
