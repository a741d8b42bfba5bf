/-! the law, case by case: 13 -/
theorem jI_132_0 : jmI (jm 132) 0 = (.aload_n 0, 1) := by rfl
theorem jI_132_1 : jmI (jm 132) 1 = (.iload_n 1, 1) := by rfl
theorem jI_132_2 : jmI (jm 132) 2 = (.iconst 4, 1) := by rfl
theorem jA_132_527 {xs : List Int} {d : Nat} {x1 x2 x3 : Int} (h_x1 : (-2147483648) ≤ x1 ∧ x1 ≤ (-1)) (h_x2 : (-2147483648) ≤ x2 ∧ x2 ≤ 2147483647) (h_x3 : (-2147483648) ≤ x3 ∧ x3 ≤ 2147483647) : jT xs (d + 1) 132 12 0 [(0, (4, 0)), (1, (0, x1)), (2, (0, x2)), (3, (0, x3))] [] jpA_6 1 6 (fun k v hsN => k = 1 ∧ v = (0, 0) ∧ hsN = jpA_6 ++ []) := by
  refine jT_xaload_n (v := (4, 0)) (pcN := 1) jI_132_0 rfl rfl rfl ?_
  refine jT_xiload_n (v := (0, x1)) (pcN := 2) jI_132_1 rfl rfl rfl ?_
  refine jT_xiconst (k := 4) (pcN := 3) jI_132_2 rfl ?_
  exact jT_fX [0] 12 (y := 115) (pcN := 6) (dC := 0) (bc1 := 1) (bc2 := 6) (as := [(4, 0), (0, x1), (0, 4)]) (asC := [(4, 0), (0, x1), (0, 4)]) (LN := [(0, (4, 0)), (1, (0, x1)), (2, (0, x2)), (3, (0, x3))]) (stN := []) (hsC := [jgh]) (e := 0) (jA_115_310 (d := 0) (by omega)) (by rfl) (by rfl) (by decide +kernel) (by rfl) (by rfl) (by omega) (by omega) (by omega) (by omega) ⟨rfl, ⟨rfl, rfl, rfl⟩⟩
theorem jI_339_0 : jmI (jm 339) 0 = (.aload 4, 2) := by rfl
theorem jI_339_2 : jmI (jm 339) 2 = (.iconst 0, 1) := by rfl
theorem jI_339_3 : jmI (jm 339) 3 = (.aload_n 0, 1) := by rfl
theorem jI_339_4 : jmI (jm 339) 4 = (.iload_n 1, 1) := by rfl
theorem jI_339_5 : jmI (jm 339) 5 = (.iload_n 2, 1) := by rfl
theorem jI_339_6 : jmI (jm 339) 6 = (.iload_n 3, 1) := by rfl
theorem jA_339_528 {xs : List Int} {d : Nat} {x1 x2 x3 : Int} (h_x1 : (-2147483648) ≤ x1 ∧ x1 ≤ (-1)) (h_x2 : (-2147483648) ≤ x2 ∧ x2 ≤ 2147483647) (h_x3 : (-2147483648) ≤ x3 ∧ x3 ≤ 2147483647) : jT xs (d + 2) 339 13 0 [(0, (4, 0)), (1, (0, x1)), (2, (0, x2)), (3, (0, x3)), (4, (4, 1))] [] jpA_15 1 6 (fun k v hsN => k = 0 ∧ v = (0, 1) ∧ hsN = jpA_15 ++ []) := by
  refine jT_xaload (v := (4, 1)) (pcN := 2) jI_339_0 rfl rfl rfl ?_
  refine jT_xiconst (k := 0) (pcN := 3) jI_339_2 rfl ?_
  refine jT_xaload_n (v := (4, 0)) (pcN := 4) jI_339_3 rfl rfl rfl ?_
  refine jT_xiload_n (v := (0, x1)) (pcN := 5) jI_339_4 rfl rfl rfl ?_
  refine jT_xiload_n (v := (0, x2)) (pcN := 6) jI_339_5 rfl rfl rfl ?_
  refine jT_xiload_n (v := (0, x3)) (pcN := 7) jI_339_6 rfl rfl rfl ?_
  exact jT_fX [0, 2, 3, 4, 5, 6, 7, 8, 9, 10, 11, 12] 13 (y := 132) (pcN := 10) (dC := 1) (bc1 := 1) (bc2 := 6) (as := [(4, 0), (0, x1), (0, x2), (0, x3)]) (asC := [(4, 0), (0, x1), (0, x2), (0, x3)]) (LN := [(0, (4, 0)), (1, (0, x1)), (2, (0, x2)), (3, (0, x3)), (4, (4, 1))]) (stN := [(0, 0), (4, 1)]) (hsC := jpA_6) (e := 0) (jA_132_527 (d := 0) (by omega) (by omega) (by omega)) (by rfl) (by rfl) (by decide +kernel) (by rfl) (by rfl) (by omega) (by omega) (by omega) (by omega) (show _ from ⟨rfl, rfl, rfl⟩)
theorem jI_252_0 : jmI (jm 252) 0 = (.aload_n 0, 1) := by rfl
theorem jI_252_1 : jmI (jm 252) 1 = (.iload_n 1, 1) := by rfl
theorem jI_252_5 : jmI (jm 252) 5 = (.ifCond .eq 14, 3) := by rfl
theorem jI_252_19 : jmI (jm 252) 19 = (.iconst 0, 1) := by rfl
theorem jI_252_23 : jmI (jm 252) 23 = (.ifCond .ne 22, 3) := by rfl
theorem jI_252_45 : jmI (jm 252) 45 = (.iconst 0, 1) := by rfl
theorem jA_252_529 {xs : List Int} {d : Nat} {x1 x2 x3 : Int} (h_x1 : (-2147483648) ≤ x1 ∧ x1 ≤ (-1)) (h_x2 : (-2147483648) ≤ x2 ∧ x2 ≤ 2147483647) (h_x3 : (-2147483648) ≤ x3 ∧ x3 ≤ 2147483647) : jT xs (d + 2) 252 16 0 [(0, (4, 0)), (1, (0, x1)), (2, (0, x2)), (3, (0, x3))] [] jpA_22 0 0 (fun k v hsN => k = 0 ∧ v = (0, 0) ∧ hsN = jpA_20) := by
  refine jT_xaload_n (v := (4, 0)) (pcN := 1) jI_252_0 rfl rfl rfl ?_
  refine jT_xiload_n (v := (0, x1)) (pcN := 2) jI_252_1 rfl rfl rfl ?_
  refine jT_fR [] 16 (y := 238) (pcN := 5) (dC := 1) (bc1 := 0) (bc2 := 0) (c1 := 0) (c2 := 0) (as := [(0, x1)]) (asC := [(0, x1)]) (LN := [(0, (4, 0)), (1, (0, x1)), (2, (0, x2)), (3, (0, x3))]) (stN := [(4, 0)]) (hsC := []) (v := (0, 0)) (st2 := [(0, 0), (4, 0)]) (jA_238_313 (d := 0) (by omega)) (by rfl) (by rfl) (by decide +kernel) (by rfl) (by rfl) (by omega) (by omega) (by omega) (by omega) rfl ?_
  refine jT_xifT (pcN := 19) jI_252_5 rfl (by decide +kernel) rfl ?_
  refine jT_xiconst (k := 0) (pcN := 20) jI_252_19 rfl ?_
  refine jT_fB [0, 1, 2, 3, 4, 5, 6, 7, 8, 9, 10, 11, 12, 13, 14, 15] 16 (y := 190) (pcN := 23) (dC := 1) (bc1 := 0) (bc2 := 0) (c1 := 0) (c2 := 0) (as := [(4, 0), (0, 0)]) (asC := [(4, 0), (0, 0)]) (LN := [(0, (4, 0)), (1, (0, x1)), (2, (0, x2)), (3, (0, x3))]) (stN := []) (hsC := jpA_22) (hsD := jpA_20) (v := (0, 1)) (st2 := [(0, 1)]) (hs2 := jpA_20) (jA_190_6 (d := 0)) (by rfl) (by rfl) (by decide +kernel) (by rfl) (by rfl) (by omega) (by omega) (by omega) (by omega) rfl (by decide +kernel) ?_
  refine jT_xifT (pcN := 45) jI_252_23 rfl (by decide +kernel) rfl ?_
  refine jT_xiconst (k := 0) (pcN := 46) jI_252_45 rfl ?_
  exact jT_ret rfl (by decide) (by show 16 ≤ 16; decide) (by omega) (by omega) ⟨rfl, rfl, rfl⟩
theorem jI_132_6 : jmI (jm 132) 6 = (.aload_n 0, 1) := by rfl
theorem jI_132_7 : jmI (jm 132) 7 = (.iload_n 3, 1) := by rfl
theorem jI_132_8 : jmI (jm 132) 8 = (.bipush 8, 2) := by rfl
theorem jA_132_530 {xs : List Int} {d : Nat} {x1 x2 x3 : Int} (h_x1 : 0 ≤ x1 ∧ x1 ≤ 3) (h_x2 : (-2147483648) ≤ x2 ∧ x2 ≤ 2147483647) (h_x3 : (-2147483648) ≤ x3 ∧ x3 ≤ (-1)) : jT xs (d + 1) 132 12 0 [(0, (4, 0)), (1, (0, x1)), (2, (0, x2)), (3, (0, x3))] [] jpA_6 1 6 (fun k v hsN => k = 1 ∧ v = (0, 0) ∧ hsN = jpA_6 ++ []) := by
  refine jT_xaload_n (v := (4, 0)) (pcN := 1) jI_132_0 rfl rfl rfl ?_
  refine jT_xiload_n (v := (0, x1)) (pcN := 2) jI_132_1 rfl rfl rfl ?_
  refine jT_xiconst (k := 4) (pcN := 3) jI_132_2 rfl ?_
  refine jT_fR [0] 12 (y := 115) (pcN := 6) (dC := 0) (bc1 := 0) (bc2 := 0) (c1 := 1) (c2 := 6) (as := [(4, 0), (0, x1), (0, 4)]) (asC := [(4, 0), (0, x1), (0, 4)]) (LN := [(0, (4, 0)), (1, (0, x1)), (2, (0, x2)), (3, (0, x3))]) (stN := []) (hsC := [jgh]) (v := (9, 0)) (st2 := []) (jA_115_315 (d := 0) (by omega)) (by rfl) (by rfl) (by decide +kernel) (by rfl) (by rfl) (by omega) (by omega) (by omega) (by omega) rfl ?_
  refine jT_xaload_n (v := (4, 0)) (pcN := 7) jI_132_6 rfl rfl rfl ?_
  refine jT_xiload_n (v := (0, x3)) (pcN := 8) jI_132_7 rfl rfl rfl ?_
  refine jT_xbipush (k := 8) (pcN := 10) jI_132_8 (by decide) rfl ?_
  exact jT_fX [0] 12 (y := 115) (pcN := 13) (dC := 0) (bc1 := 1) (bc2 := 6) (as := [(4, 0), (0, x3), (0, 8)]) (asC := [(4, 0), (0, x3), (0, 8)]) (LN := [(0, (4, 0)), (1, (0, x1)), (2, (0, x2)), (3, (0, x3))]) (stN := []) (hsC := [jgh]) (e := 0) (jA_115_17 (d := 0) (by omega)) (by rfl) (by rfl) (by decide +kernel) (by rfl) (by rfl) (by omega) (by omega) (by omega) (by omega) ⟨rfl, ⟨rfl, rfl, rfl⟩⟩
theorem jA_339_531 {xs : List Int} {d : Nat} {x1 x2 x3 : Int} (h_x1 : 0 ≤ x1 ∧ x1 ≤ 3) (h_x2 : (-2147483648) ≤ x2 ∧ x2 ≤ 2147483647) (h_x3 : (-2147483648) ≤ x3 ∧ x3 ≤ (-1)) : jT xs (d + 2) 339 13 0 [(0, (4, 0)), (1, (0, x1)), (2, (0, x2)), (3, (0, x3)), (4, (4, 1))] [] jpA_15 1 6 (fun k v hsN => k = 0 ∧ v = (0, 1) ∧ hsN = jpA_15 ++ []) := by
  refine jT_xaload (v := (4, 1)) (pcN := 2) jI_339_0 rfl rfl rfl ?_
  refine jT_xiconst (k := 0) (pcN := 3) jI_339_2 rfl ?_
  refine jT_xaload_n (v := (4, 0)) (pcN := 4) jI_339_3 rfl rfl rfl ?_
  refine jT_xiload_n (v := (0, x1)) (pcN := 5) jI_339_4 rfl rfl rfl ?_
  refine jT_xiload_n (v := (0, x2)) (pcN := 6) jI_339_5 rfl rfl rfl ?_
  refine jT_xiload_n (v := (0, x3)) (pcN := 7) jI_339_6 rfl rfl rfl ?_
  exact jT_fX [0, 2, 3, 4, 5, 6, 7, 8, 9, 10, 11, 12] 13 (y := 132) (pcN := 10) (dC := 1) (bc1 := 1) (bc2 := 6) (as := [(4, 0), (0, x1), (0, x2), (0, x3)]) (asC := [(4, 0), (0, x1), (0, x2), (0, x3)]) (LN := [(0, (4, 0)), (1, (0, x1)), (2, (0, x2)), (3, (0, x3)), (4, (4, 1))]) (stN := [(0, 0), (4, 1)]) (hsC := jpA_6) (e := 0) (jA_132_530 (d := 0) (by omega) (by omega) (by omega)) (by rfl) (by rfl) (by decide +kernel) (by rfl) (by rfl) (by omega) (by omega) (by omega) (by omega) (show _ from ⟨rfl, rfl, rfl⟩)
theorem jI_252_8 : jmI (jm 252) 8 = (.iload_n 3, 1) := by rfl
theorem jI_252_12 : jmI (jm 252) 12 = (.ifCond .eq 7, 3) := by rfl
theorem jA_252_532 {xs : List Int} {d : Nat} {x1 x2 x3 : Int} (h_x1 : 0 ≤ x1 ∧ x1 ≤ 3) (h_x2 : (-2147483648) ≤ x2 ∧ x2 ≤ 2147483647) (h_x3 : (-2147483648) ≤ x3 ∧ x3 ≤ (-1)) : jT xs (d + 2) 252 16 0 [(0, (4, 0)), (1, (0, x1)), (2, (0, x2)), (3, (0, x3))] [] jpA_22 0 0 (fun k v hsN => k = 0 ∧ v = (0, 0) ∧ hsN = jpA_20) := by
  refine jT_xaload_n (v := (4, 0)) (pcN := 1) jI_252_0 rfl rfl rfl ?_
  refine jT_xiload_n (v := (0, x1)) (pcN := 2) jI_252_1 rfl rfl rfl ?_
  refine jT_fR [] 16 (y := 238) (pcN := 5) (dC := 1) (bc1 := 0) (bc2 := 0) (c1 := 0) (c2 := 0) (as := [(0, x1)]) (asC := [(0, x1)]) (LN := [(0, (4, 0)), (1, (0, x1)), (2, (0, x2)), (3, (0, x3))]) (stN := [(4, 0)]) (hsC := []) (v := (0, 1)) (st2 := [(0, 1), (4, 0)]) (jA_238_318 (d := 0) (by omega)) (by rfl) (by rfl) (by decide +kernel) (by rfl) (by rfl) (by omega) (by omega) (by omega) (by omega) rfl ?_
  refine jT_xifF (t := 19) (pcN := 8) jI_252_5 rfl (by decide +kernel) rfl rfl ?_
  refine jT_xiload_n (v := (0, x3)) (pcN := 9) jI_252_8 rfl rfl rfl ?_
  refine jT_fR [] 16 (y := 188) (pcN := 12) (dC := 1) (bc1 := 0) (bc2 := 0) (c1 := 0) (c2 := 0) (as := [(0, x3)]) (asC := [(0, x3)]) (LN := [(0, (4, 0)), (1, (0, x1)), (2, (0, x2)), (3, (0, x3))]) (stN := [(4, 0)]) (hsC := []) (v := (0, 0)) (st2 := [(0, 0), (4, 0)]) (jA_188_21 (d := 0) (by omega)) (by rfl) (by rfl) (by decide +kernel) (by rfl) (by rfl) (by omega) (by omega) (by omega) (by omega) rfl ?_
  refine jT_xifT (pcN := 19) jI_252_12 rfl (by decide +kernel) rfl ?_
  refine jT_xiconst (k := 0) (pcN := 20) jI_252_19 rfl ?_
  refine jT_fB [0, 1, 2, 3, 4, 5, 6, 7, 8, 9, 10, 11, 12, 13, 14, 15] 16 (y := 190) (pcN := 23) (dC := 1) (bc1 := 0) (bc2 := 0) (c1 := 0) (c2 := 0) (as := [(4, 0), (0, 0)]) (asC := [(4, 0), (0, 0)]) (LN := [(0, (4, 0)), (1, (0, x1)), (2, (0, x2)), (3, (0, x3))]) (stN := []) (hsC := jpA_22) (hsD := jpA_20) (v := (0, 1)) (st2 := [(0, 1)]) (hs2 := jpA_20) (jA_190_6 (d := 0)) (by rfl) (by rfl) (by decide +kernel) (by rfl) (by rfl) (by omega) (by omega) (by omega) (by omega) rfl (by decide +kernel) ?_
  refine jT_xifT (pcN := 45) jI_252_23 rfl (by decide +kernel) rfl ?_
  refine jT_xiconst (k := 0) (pcN := 46) jI_252_45 rfl ?_
  exact jT_ret rfl (by decide) (by show 16 ≤ 16; decide) (by omega) (by omega) ⟨rfl, rfl, rfl⟩
theorem jA_116_533 {xs : List Int} {d : Nat} {x2 : Int} (h_x2 : (-2147483648) ≤ x2 ∧ x2 ≤ (-201)) : jT xs d 116 1 0 [(0, (4, 0)), (1, (0, x2)), (2, (0, (-200))), (3, (0, 200))] [] [jgh] 1 6 (fun k v hsN => k = 1 ∧ v = (0, 1) ∧ hsN = [jgh] ++ []) := by
  refine jT_xiload_n (v := (0, x2)) (pcN := 1) jI_116_0 rfl rfl rfl ?_
  refine jT_xiload_n (v := (0, (-200))) (pcN := 2) jI_116_1 rfl rfl rfl ?_
  refine jT_icT (a := x2) (b := (-200)) (t := 10) (by rfl) (by rfl) (by rfl) (jw_idd (by omega) (by omega)) (jw_idd (by omega) (by omega)) (by simp only [jcP] <;> omega) ?_
  exact jT_ret (c1 := 1) (s1 := 6) rfl (by decide) (by show 1 ≤ 1; decide) (by omega) (by omega) ⟨rfl, rfl, rfl⟩
theorem jI_132_13 : jmI (jm 132) 13 = (.aload_n 0, 1) := by rfl
theorem jI_132_14 : jmI (jm 132) 14 = (.iload_n 2, 1) := by rfl
theorem jI_132_15 : jmI (jm 132) 15 = (.sipush (-200), 3) := by rfl
theorem jI_132_18 : jmI (jm 132) 18 = (.sipush 200, 3) := by rfl
theorem jA_132_534 {xs : List Int} {d : Nat} {x1 x2 x3 : Int} (h_x1 : 0 ≤ x1 ∧ x1 ≤ 3) (h_x2 : (-2147483648) ≤ x2 ∧ x2 ≤ (-201)) (h_x3 : 0 ≤ x3 ∧ x3 ≤ 7) : jT xs (d + 1) 132 12 0 [(0, (4, 0)), (1, (0, x1)), (2, (0, x2)), (3, (0, x3))] [] jpA_6 1 6 (fun k v hsN => k = 1 ∧ v = (0, 1) ∧ hsN = jpA_6 ++ []) := by
  refine jT_xaload_n (v := (4, 0)) (pcN := 1) jI_132_0 rfl rfl rfl ?_
  refine jT_xiload_n (v := (0, x1)) (pcN := 2) jI_132_1 rfl rfl rfl ?_
  refine jT_xiconst (k := 4) (pcN := 3) jI_132_2 rfl ?_
  refine jT_fR [0] 12 (y := 115) (pcN := 6) (dC := 0) (bc1 := 0) (bc2 := 0) (c1 := 1) (c2 := 6) (as := [(4, 0), (0, x1), (0, 4)]) (asC := [(4, 0), (0, x1), (0, 4)]) (LN := [(0, (4, 0)), (1, (0, x1)), (2, (0, x2)), (3, (0, x3))]) (stN := []) (hsC := [jgh]) (v := (9, 0)) (st2 := []) (jA_115_315 (d := 0) (by omega)) (by rfl) (by rfl) (by decide +kernel) (by rfl) (by rfl) (by omega) (by omega) (by omega) (by omega) rfl ?_
  refine jT_xaload_n (v := (4, 0)) (pcN := 7) jI_132_6 rfl rfl rfl ?_
  refine jT_xiload_n (v := (0, x3)) (pcN := 8) jI_132_7 rfl rfl rfl ?_
  refine jT_xbipush (k := 8) (pcN := 10) jI_132_8 (by decide) rfl ?_
  refine jT_fR [0] 12 (y := 115) (pcN := 13) (dC := 0) (bc1 := 0) (bc2 := 0) (c1 := 1) (c2 := 6) (as := [(4, 0), (0, x3), (0, 8)]) (asC := [(4, 0), (0, x3), (0, 8)]) (LN := [(0, (4, 0)), (1, (0, x1)), (2, (0, x2)), (3, (0, x3))]) (stN := []) (hsC := [jgh]) (v := (9, 0)) (st2 := []) (jA_115_23 (d := 0) (by omega)) (by rfl) (by rfl) (by decide +kernel) (by rfl) (by rfl) (by omega) (by omega) (by omega) (by omega) rfl ?_
  refine jT_xaload_n (v := (4, 0)) (pcN := 14) jI_132_13 rfl rfl rfl ?_
  refine jT_xiload_n (v := (0, x2)) (pcN := 15) jI_132_14 rfl rfl rfl ?_
  refine jT_xsipush (k := (-200)) (pcN := 18) jI_132_15 (by decide) rfl ?_
  refine jT_xsipush (k := 200) (pcN := 21) jI_132_18 (by decide) rfl ?_
  exact jT_fX [0] 12 (y := 116) (pcN := 24) (dC := 0) (bc1 := 1) (bc2 := 6) (as := [(4, 0), (0, x2), (0, (-200)), (0, 200)]) (asC := [(4, 0), (0, x2), (0, (-200)), (0, 200)]) (LN := [(0, (4, 0)), (1, (0, x1)), (2, (0, x2)), (3, (0, x3))]) (stN := []) (hsC := [jgh]) (e := 1) (jA_116_533 (d := 0) (by omega)) (by rfl) (by rfl) (by decide +kernel) (by rfl) (by rfl) (by omega) (by omega) (by omega) (by omega) ⟨rfl, ⟨rfl, rfl, rfl⟩⟩
theorem jA_339_535 {xs : List Int} {d : Nat} {x1 x2 x3 : Int} (h_x1 : 0 ≤ x1 ∧ x1 ≤ 3) (h_x2 : (-2147483648) ≤ x2 ∧ x2 ≤ (-201)) (h_x3 : 0 ≤ x3 ∧ x3 ≤ 7) : jT xs (d + 2) 339 13 0 [(0, (4, 0)), (1, (0, x1)), (2, (0, x2)), (3, (0, x3)), (4, (4, 1))] [] jpA_15 1 6 (fun k v hsN => k = 0 ∧ v = (0, 2) ∧ hsN = jpA_15 ++ []) := by
  refine jT_xaload (v := (4, 1)) (pcN := 2) jI_339_0 rfl rfl rfl ?_
  refine jT_xiconst (k := 0) (pcN := 3) jI_339_2 rfl ?_
  refine jT_xaload_n (v := (4, 0)) (pcN := 4) jI_339_3 rfl rfl rfl ?_
  refine jT_xiload_n (v := (0, x1)) (pcN := 5) jI_339_4 rfl rfl rfl ?_
  refine jT_xiload_n (v := (0, x2)) (pcN := 6) jI_339_5 rfl rfl rfl ?_
  refine jT_xiload_n (v := (0, x3)) (pcN := 7) jI_339_6 rfl rfl rfl ?_
  exact jT_fX [0, 2, 3, 4, 5, 6, 7, 8, 9, 10, 11, 12] 13 (y := 132) (pcN := 10) (dC := 1) (bc1 := 1) (bc2 := 6) (as := [(4, 0), (0, x1), (0, x2), (0, x3)]) (asC := [(4, 0), (0, x1), (0, x2), (0, x3)]) (LN := [(0, (4, 0)), (1, (0, x1)), (2, (0, x2)), (3, (0, x3)), (4, (4, 1))]) (stN := [(0, 0), (4, 1)]) (hsC := jpA_6) (e := 1) (jA_132_534 (d := 0) (by omega) (by omega) (by omega)) (by rfl) (by rfl) (by decide +kernel) (by rfl) (by rfl) (by omega) (by omega) (by omega) (by omega) (show _ from ⟨rfl, rfl, rfl⟩)
theorem jI_252_15 : jmI (jm 252) 15 = (.iconst 1, 1) := by rfl
theorem jI_252_16 : jmI (jm 252) 16 = (.goto 4, 3) := by rfl
theorem jI_252_26 : jmI (jm 252) 26 = (.aload_n 0, 1) := by rfl
theorem jI_252_27 : jmI (jm 252) 27 = (.iload_n 2, 1) := by rfl
theorem jI_252_28 : jmI (jm 252) 28 = (.i2l, 1) := by rfl
theorem jI_252_38 : jmI (jm 252) 38 = (.iconst 2, 1) := by rfl
theorem jI_252_42 : jmI (jm 252) 42 = (.ifCond .eq 5, 3) := by rfl
theorem jA_252_536 {xs : List Int} {d : Nat} {x1 x2 x3 : Int} (h_x1 : 0 ≤ x1 ∧ x1 ≤ 3) (h_x2 : (-2147483648) ≤ x2 ∧ x2 ≤ (-201)) (h_x3 : 0 ≤ x3 ∧ x3 ≤ 7) : jT xs (d + 2) 252 16 0 [(0, (4, 0)), (1, (0, x1)), (2, (0, x2)), (3, (0, x3))] [] jpA_22 0 0 (fun k v hsN => k = 0 ∧ v = (0, 0) ∧ hsN = jpA_361) := by
  refine jT_xaload_n (v := (4, 0)) (pcN := 1) jI_252_0 rfl rfl rfl ?_
  refine jT_xiload_n (v := (0, x1)) (pcN := 2) jI_252_1 rfl rfl rfl ?_
  refine jT_fR [] 16 (y := 238) (pcN := 5) (dC := 1) (bc1 := 0) (bc2 := 0) (c1 := 0) (c2 := 0) (as := [(0, x1)]) (asC := [(0, x1)]) (LN := [(0, (4, 0)), (1, (0, x1)), (2, (0, x2)), (3, (0, x3))]) (stN := [(4, 0)]) (hsC := []) (v := (0, 1)) (st2 := [(0, 1), (4, 0)]) (jA_238_318 (d := 0) (by omega)) (by rfl) (by rfl) (by decide +kernel) (by rfl) (by rfl) (by omega) (by omega) (by omega) (by omega) rfl ?_
  refine jT_xifF (t := 19) (pcN := 8) jI_252_5 rfl (by decide +kernel) rfl rfl ?_
  refine jT_xiload_n (v := (0, x3)) (pcN := 9) jI_252_8 rfl rfl rfl ?_
  refine jT_fR [] 16 (y := 188) (pcN := 12) (dC := 1) (bc1 := 0) (bc2 := 0) (c1 := 0) (c2 := 0) (as := [(0, x3)]) (asC := [(0, x3)]) (LN := [(0, (4, 0)), (1, (0, x1)), (2, (0, x2)), (3, (0, x3))]) (stN := [(4, 0)]) (hsC := []) (v := (0, 1)) (st2 := [(0, 1), (4, 0)]) (jA_188_37 (d := 0) (by omega)) (by rfl) (by rfl) (by decide +kernel) (by rfl) (by rfl) (by omega) (by omega) (by omega) (by omega) rfl ?_
  refine jT_xifF (t := 19) (pcN := 15) jI_252_12 rfl (by decide +kernel) rfl rfl ?_
  refine jT_xiconst (k := 1) (pcN := 16) jI_252_15 rfl ?_
  refine jT_xgoto (pcN := 20) jI_252_16 rfl ?_
  refine jT_fR [0, 1, 2, 3, 4, 5, 6, 7, 8, 9, 10, 11, 12, 13, 14, 15] 16 (y := 190) (pcN := 23) (dC := 1) (bc1 := 0) (bc2 := 0) (c1 := 0) (c2 := 0) (as := [(4, 0), (0, 1)]) (asC := [(4, 0), (0, 1)]) (LN := [(0, (4, 0)), (1, (0, x1)), (2, (0, x2)), (3, (0, x3))]) (stN := []) (hsC := jpA_22) (v := (0, 0)) (st2 := [(0, 0)]) (jA_190_39 (d := 0)) (by rfl) (by rfl) (by decide +kernel) (by rfl) (by rfl) (by omega) (by omega) (by omega) (by omega) rfl ?_
  refine jT_xifF (t := 45) (pcN := 26) jI_252_23 rfl (by decide +kernel) rfl rfl ?_
  refine jT_xaload_n (v := (4, 0)) (pcN := 27) jI_252_26 rfl rfl rfl ?_
  refine jT_xiload_n (v := (0, x2)) (pcN := 28) jI_252_27 rfl rfl rfl ?_
  refine jT_xi2l (x := x2) (z := x2) (pcN := 29) jI_252_28 rfl (jw_idd (by omega) (by omega)) rfl ?_
  refine jT_adv 2 (pcN := 35) (LN := [(0, (4, 0)), (1, (0, x1)), (2, (0, x2)), (3, (0, x3))]) (stN := [(1, 200), (1, (-200)), (1, x2), (4, 0)]) (hsN := jpA_22) (c1 := 0) (s1 := 0) (c2 := 0) (s2 := 0) (by exact rfl) ?_ (by omega) (by omega)
  refine jT_fR [] 16 (y := 189) (pcN := 38) (dC := 0) (bc1 := 0) (bc2 := 0) (c1 := 0) (c2 := 0) (as := [(1, x2), (1, (-200)), (1, 200)]) (asC := [(1, x2), (1, (-200)), (1, 200)]) (LN := [(0, (4, 0)), (1, (0, x1)), (2, (0, x2)), (3, (0, x3))]) (stN := [(4, 0)]) (hsC := []) (v := (0, 0)) (st2 := [(0, 0), (4, 0)]) (jT_in_lo (d := 0) (v := x2) (lo := (-200)) (hi := 200) (by omega) (by omega) (by omega) (by omega)) (by rfl) (by rfl) (by decide +kernel) (by rfl) (by rfl) (by omega) (by omega) (by omega) (by omega) rfl ?_
  refine jT_xiconst (k := 2) (pcN := 39) jI_252_38 rfl ?_
  refine jT_fB [0, 1, 2, 3, 4, 5, 6, 7, 8, 9, 10, 11, 12, 13, 14, 15] 16 (y := 191) (pcN := 42) (dC := 0) (bc1 := 0) (bc2 := 0) (c1 := 0) (c2 := 0) (as := [(4, 0), (0, 0), (0, 2)]) (asC := [(4, 0), (0, 0), (0, 2)]) (LN := [(0, (4, 0)), (1, (0, x1)), (2, (0, x2)), (3, (0, x3))]) (stN := []) (hsC := jpA_22) (hsD := jpA_361) (v := (0, 1)) (st2 := [(0, 1)]) (hs2 := jpA_361) (jA_191_99 (d := 0)) (by rfl) (by rfl) (by decide +kernel) (by rfl) (by rfl) (by omega) (by omega) (by omega) (by omega) rfl (by decide +kernel) ?_
  refine jT_xifF (t := 47) (pcN := 45) jI_252_42 rfl (by decide +kernel) rfl rfl ?_
  refine jT_xiconst (k := 0) (pcN := 46) jI_252_45 rfl ?_
  exact jT_ret rfl (by decide) (by show 16 ≤ 16; decide) (by omega) (by omega) ⟨rfl, rfl, rfl⟩
theorem jA_116_537 {xs : List Int} {d : Nat} {x2 : Int} (h_x2 : (-200) ≤ x2 ∧ x2 ≤ 200) : jT xs d 116 1 0 [(0, (4, 0)), (1, (0, x2)), (2, (0, (-200))), (3, (0, 200))] [] [jgh] 0 0 (fun k v hsN => k = 0 ∧ v = (9, 0) ∧ hsN = [jgh] ++ []) := by
  refine jT_xiload_n (v := (0, x2)) (pcN := 1) jI_116_0 rfl rfl rfl ?_
  refine jT_xiload_n (v := (0, (-200))) (pcN := 2) jI_116_1 rfl rfl rfl ?_
  refine jT_icF (a := x2) (b := (-200)) (t := 10) (by rfl) (by rfl) (by rfl) (jw_idd (by omega) (by omega)) (jw_idd (by omega) (by omega)) (by simp only [jcP] <;> omega) ?_
  refine jT_xiload_n (v := (0, x2)) (pcN := 6) jI_116_5 rfl rfl rfl ?_
  refine jT_xiload_n (v := (0, 200)) (pcN := 7) jI_116_6 rfl rfl rfl ?_
  refine jT_icT (a := x2) (b := 200) (t := 21) (by rfl) (by rfl) (by rfl) (jw_idd (by omega) (by omega)) (jw_idd (by omega) (by omega)) (by simp only [jcP] <;> omega) ?_
  exact jT_ret rfl (by decide) (by show 1 ≤ 1; decide) (by omega) (by omega) ⟨rfl, rfl, rfl⟩
theorem jA_30_538 {xs : List Int} {d : Nat} : jT xs d 30 3 0 [(0, (4, 0)), (1, (0, 0))] [] [(7, [(4, 1), (4, (-1)), (4, (-1))], []), (114, [], [2]), jgh] 0 0 (fun k v hsN => k = 0 ∧ v = (4, 2) ∧ hsN = [(7, [(4, 1), (4, (-1)), (4, (-1))], []), (114, [], [2]), jgh] ++ []) := by
  refine jT_advK 4 (pcN := 6) (LN := [(0, (4, 0)), (1, (0, 0))]) (stN := [(4, 2)]) (hsN := [(7, [(4, 1), (4, (-1)), (4, (-1))], []), (114, [], [2]), jgh]) (c1 := 0) (s1 := 0) (c2 := 0) (s2 := 0) (by decide +kernel) ?_ (by omega) (by omega)
  exact jT_ret rfl (by decide) (by show 3 ≤ 3; decide) (by omega) (by omega) ⟨rfl, rfl, rfl⟩
theorem jI_97_49 : jmI (jm 97) 49 = (.lload_n 1, 1) := by rfl
theorem jI_97_50 : jmI (jm 97) 50 = (.lconst 1, 1) := by rfl
theorem jI_97_52 : jmI (jm 97) 52 = (.ifCond .ge 7, 3) := by rfl
theorem jI_97_59 : jmI (jm 97) 59 = (.lload_n 1, 1) := by rfl
theorem jA_97_539 {xs : List Int} {d : Nat} {x2 : Int} (h_x2 : (-200) ≤ x2 ∧ x2 ≤ 200) : jT xs d 97 1 0 [(0, (4, 0)), (1, (1, 1))] [] [(101, [], [x2, 0, 0, 0, 0, 0])] 0 0 (fun k v hsN => k = 0 ∧ v = (1, 1) ∧ hsN = [(101, [], [x2, 0, 0, 0, 0, 0])] ++ []) := by
  refine jT_xlload_n (v := (1, 1)) (pcN := 1) jI_97_0 rfl rfl rfl ?_
  refine jT_xlconst (z := 1) (pcN := 2) jI_97_1 rfl rfl ?_
  refine jT_lcmp (a := 1) (b := 1) (z := 0) (by rfl) (by rfl) (by decide +kernel) (by decide +kernel) (by decide) ?_
  refine jT_xifT (pcN := 10) jI_97_3 rfl (by decide +kernel) rfl ?_
  refine jT_xlload_n (v := (1, 1)) (pcN := 11) jI_97_10 rfl rfl rfl ?_
  refine jT_xlstore_n (v := (1, 1)) (LN := [(3, (1, 1)), (0, (4, 0)), (1, (1, 1))]) (pcN := 12) jI_97_11 rfl rfl rfl rfl ?_
  refine jT_xiconst (k := 0) (pcN := 13) jI_97_12 rfl ?_
  refine jT_xistore (v := (0, 0)) (LN := [(5, (0, 0)), (3, (1, 1)), (0, (4, 0)), (1, (1, 1))]) (pcN := 15) jI_97_13 rfl rfl rfl rfl ?_
  refine jT_xiload (v := (0, 0)) (pcN := 17) jI_97_15 rfl rfl rfl ?_
  refine jT_xaload_n (v := (4, 0)) (pcN := 18) jI_97_17 rfl rfl rfl ?_
  refine jT_adv 1 (pcN := 19) (LN := [(5, (0, 0)), (3, (1, 1)), (0, (4, 0)), (1, (1, 1))]) (stN := [(0, 6), (0, 0)]) (hsN := [(101, [], [x2, 0, 0, 0, 0, 0])]) (c1 := 0) (s1 := 0) (c2 := 0) (s2 := 0) (by exact rfl) ?_ (by omega) (by omega)
  refine jT_xicF (t := 43) (pcN := 22) jI_97_19 rfl (by decide +kernel) rfl rfl ?_
  refine jT_xlload_n (v := (1, 1)) (pcN := 23) jI_97_22 rfl rfl rfl ?_
  refine jT_xlconst (z := 1) (pcN := 24) jI_97_23 rfl rfl ?_
  refine jT_lcmp (a := 1) (b := 1) (z := 0) (by rfl) (by rfl) (by decide +kernel) (by decide +kernel) (by decide) ?_
  refine jT_xifT (pcN := 43) jI_97_25 rfl (by decide +kernel) rfl ?_
  refine jT_xlload_n (v := (1, 1)) (pcN := 44) jI_97_43 rfl rfl rfl ?_
  refine jT_xlconst (z := 1) (pcN := 45) jI_97_44 rfl rfl ?_
  refine jT_lcmp (a := 1) (b := 1) (z := 0) (by rfl) (by rfl) (by decide +kernel) (by decide +kernel) (by decide) ?_
  refine jT_xifF (t := 61) (pcN := 49) jI_97_46 rfl (by decide +kernel) rfl rfl ?_
  refine jT_xlload_n (v := (1, 1)) (pcN := 50) jI_97_49 rfl rfl rfl ?_
  refine jT_xlconst (z := 1) (pcN := 51) jI_97_50 rfl rfl ?_
  refine jT_lcmp (a := 1) (b := 1) (z := 0) (by rfl) (by rfl) (by decide +kernel) (by decide +kernel) (by decide) ?_
  refine jT_xifT (pcN := 59) jI_97_52 rfl (by decide +kernel) rfl ?_
  refine jT_xlload_n (v := (1, 1)) (pcN := 60) jI_97_59 rfl rfl rfl ?_
  exact jT_ret rfl (by decide) (by show 1 ≤ 1; decide) (by omega) (by omega) ⟨rfl, rfl, rfl⟩
theorem jA_9_540 {xs : List Int} {d : Nat} {x2 : Int} (h_x2 : (-200) ≤ x2 ∧ x2 ≤ 200) : jT xs (d + 1) 9 2 0 [(0, (4, 0)), (1, (4, 1)), (2, (1, 1))] [] [(4, [(4, (-1)), (1, 0)], []), (101, [], [x2, 0, 0, 0, 0, 0])] 0 0 (fun k v hsN => k = 0 ∧ v = (9, 0) ∧ hsN = [(4, [(4, 1), (1, 1)], []), (101, [], [x2, 0, 0, 0, 0, 0])]) := by
  refine jT_xaload_n (v := (4, 0)) (pcN := 1) jI_9_0 rfl rfl rfl ?_
  refine jT_adv 1 (pcN := 4) (LN := [(0, (4, 0)), (1, (4, 1)), (2, (1, 1))]) (stN := []) (hsN := [(4, [(4, (-1)), (1, 0)], []), (101, [], [x2, 0, 0, 0, 0, 0])]) (c1 := 0) (s1 := 0) (c2 := 0) (s2 := 0) (by exact rfl) ?_ (by omega) (by omega)
  refine jT_xaload_n (v := (4, 0)) (pcN := 5) jI_9_4 rfl rfl rfl ?_
  refine jT_xaload_n (v := (4, 1)) (pcN := 6) jI_9_5 rfl rfl rfl ?_
  refine jT_adv 1 (pcN := 9) (LN := [(0, (4, 0)), (1, (4, 1)), (2, (1, 1))]) (stN := []) (hsN := [(4, [(4, 1), (1, 0)], []), (101, [], [x2, 0, 0, 0, 0, 0])]) (c1 := 0) (s1 := 0) (c2 := 0) (s2 := 0) (by exact rfl) ?_ (by omega) (by omega)
  refine jT_xaload_n (v := (4, 0)) (pcN := 10) jI_9_9 rfl rfl rfl ?_
  refine jT_xaload_n (v := (4, 1)) (pcN := 11) jI_9_10 rfl rfl rfl ?_
  refine jT_xlload_n (v := (1, 1)) (pcN := 12) jI_9_11 rfl rfl rfl ?_
  refine jT_callA [1] (y := 97) (pcN := 15) (dC := 0) (bc1 := 0) (bc2 := 0) (c1 := 0) (c2 := 0) (as := [(4, 1), (1, 1)]) (asC := [(4, 0), (1, 1)]) (LN := [(0, (4, 0)), (1, (4, 1)), (2, (1, 1))]) (stN := [(4, 0)]) (hsC := [(101, [], [x2, 0, 0, 0, 0, 0])]) (ex := []) (v := (1, 1)) (st2 := [(1, 1), (4, 0)]) (hs2 := [(4, [(4, 1), (1, 0)], []), (101, [], [x2, 0, 0, 0, 0, 0])]) (jA_97_539 (d := 0) (by omega)) (by rfl) (by rfl) (by rfl) (by rfl) ⟨rfl, trivial⟩ (by rfl) (by rfl) (by omega) (by show 2 ≤ 2; omega) (by omega) (by omega) rfl rfl ?_
  refine jT_adv 1 (pcN := 18) (LN := [(0, (4, 0)), (1, (4, 1)), (2, (1, 1))]) (stN := []) (hsN := [(4, [(4, 1), (1, 1)], []), (101, [], [x2, 0, 0, 0, 0, 0])]) (c1 := 0) (s1 := 0) (c2 := 0) (s2 := 0) (by exact rfl) ?_ (by omega) (by omega)
  exact jT_ret rfl (by decide) (by show 2 ≤ 2; decide) (by omega) (by omega) ⟨rfl, rfl, rfl⟩
theorem jA_10_541 {xs : List Int} {d : Nat} {x2 : Int} (h_x2 : (-200) ≤ x2 ∧ x2 ≤ 200) : jT xs (d + 2) 10 2 0 [(0, (4, 0)), (1, (1, 1)), (3, (1, 1)), (5, (1, x2))] [] [(4, [(4, 1), (1, 1)], []), (101, [], [0, 0, 0, 0, 0, 0])] 2 8 (fun k v hsN => k = 0 ∧ v = (4, 3) ∧ hsN = [(4, [(4, 1), (1, 1)], []), (101, [], [0, 0, 0, 0, 0, 0])] ++ [(101, [], [x2, 0, 0, 0, 0, 0]), (4, [(4, 2), (1, 1)], [])]) := by
  refine jT_xbipush (k := 6) (pcN := 2) jI_10_0 (by decide) rfl ?_
  refine jT_adv 1 (pcN := 4) (LN := [(0, (4, 0)), (1, (1, 1)), (3, (1, 1)), (5, (1, x2))]) (stN := [(4, 2)]) (hsN := [(4, [(4, 1), (1, 1)], []), (101, [], [0, 0, 0, 0, 0, 0]), (101, [], [0, 0, 0, 0, 0, 0])]) (c1 := 1) (s1 := 6) (c2 := 1) (s2 := 2) (by exact rfl) ?_ (by omega) (by omega)
  refine jT_xastore (v := (4, 2)) (LN := [(7, (4, 2)), (0, (4, 0)), (1, (1, 1)), (3, (1, 1)), (5, (1, x2))]) (pcN := 6) jI_10_4 rfl rfl rfl rfl ?_
  refine jT_xiconst (k := 0) (pcN := 7) jI_10_6 rfl ?_
  refine jT_xistore (v := (0, 0)) (LN := [(8, (0, 0)), (7, (4, 2)), (0, (4, 0)), (1, (1, 1)), (3, (1, 1)), (5, (1, x2))]) (pcN := 9) jI_10_7 rfl rfl rfl rfl ?_
  refine jT_xiload (v := (0, 0)) (pcN := 11) jI_10_9 rfl rfl rfl ?_
  refine jT_xbipush (k := 6) (pcN := 13) jI_10_11 (by decide) rfl ?_
  refine jT_xicF (t := 36) (pcN := 16) jI_10_13 rfl (by decide +kernel) rfl rfl ?_
  refine jT_xaload (v := (4, 2)) (pcN := 18) jI_10_16 rfl rfl rfl ?_
  refine jT_xiload (v := (0, 0)) (pcN := 20) jI_10_18 rfl rfl rfl ?_
  refine jT_xaload_n (v := (4, 0)) (pcN := 21) jI_10_20 rfl rfl rfl ?_
  refine jT_xgetf (a := 0) (t := 1) (ci := 4) (fi := 0) (c := (4, [(4, 1), (1, 1)], [])) (v := (4, 1)) (pcN := 24) jI_10_21 rfl rfl rfl rfl rfl rfl rfl ?_
  refine jT_xiload (v := (0, 0)) (pcN := 26) jI_10_24 rfl rfl rfl ?_
  refine jT_lald (x := 0) (a := 1) (j := 0) (fs := []) (X := [0, 0, 0, 0, 0, 0]) jI_10_26 rfl rfl rfl rfl ?_
  refine jT_eq (LN := [(8, (0, 0)), (7, (4, 2)), (0, (4, 0)), (1, (1, 1)), (3, (1, 1)), (5, (1, x2))]) (stN := [(1, 0), (0, 0), (4, 2)]) (hsN := [(4, [(4, 1), (1, 1)], []), (101, [], [0, 0, 0, 0, 0, 0]), (101, [], [0, 0, 0, 0, 0, 0])]) rfl rfl rfl ?_
  refine jT_xlload_n (v := (1, 1)) (pcN := 28) jI_10_27 rfl rfl rfl ?_
  refine jT_xlmul (x := 0) (y := 1) (z := 0) (pcN := 29) jI_10_28 rfl (by decide) rfl ?_
  refine jT_adv 1 (pcN := 30) (LN := [(8, (0, 0)), (7, (4, 2)), (0, (4, 0)), (1, (1, 1)), (3, (1, 1)), (5, (1, x2))]) (stN := []) (hsN := [(4, [(4, 1), (1, 1)], []), (101, [], [0, 0, 0, 0, 0, 0]), (101, [], [0, 0, 0, 0, 0, 0])]) (c1 := 0) (s1 := 0) (c2 := 1) (s2 := 2) (by exact rfl) ?_ (by omega) (by omega)
  refine jT_xiinc (x := 0) (z := 1) (LN := [(8, (0, 1)), (7, (4, 2)), (0, (4, 0)), (1, (1, 1)), (3, (1, 1)), (5, (1, x2))]) (pcN := 33) jI_10_30 rfl rfl (by decide) rfl rfl ?_
  refine jT_xgoto (pcN := 9) jI_10_33 rfl ?_
  refine jT_xiload (v := (0, 1)) (pcN := 11) jI_10_9 rfl rfl rfl ?_
  refine jT_xbipush (k := 6) (pcN := 13) jI_10_11 (by decide) rfl ?_
  refine jT_xicF (t := 36) (pcN := 16) jI_10_13 rfl (by decide +kernel) rfl rfl ?_
  refine jT_xaload (v := (4, 2)) (pcN := 18) jI_10_16 rfl rfl rfl ?_
  refine jT_xiload (v := (0, 1)) (pcN := 20) jI_10_18 rfl rfl rfl ?_
  refine jT_xaload_n (v := (4, 0)) (pcN := 21) jI_10_20 rfl rfl rfl ?_
  refine jT_xgetf (a := 0) (t := 1) (ci := 4) (fi := 0) (c := (4, [(4, 1), (1, 1)], [])) (v := (4, 1)) (pcN := 24) jI_10_21 rfl rfl rfl rfl rfl rfl rfl ?_
  refine jT_xiload (v := (0, 1)) (pcN := 26) jI_10_24 rfl rfl rfl ?_
  refine jT_lald (x := 0) (a := 1) (j := 1) (fs := []) (X := [0, 0, 0, 0, 0, 0]) jI_10_26 rfl rfl rfl rfl ?_
  refine jT_eq (LN := [(8, (0, 1)), (7, (4, 2)), (0, (4, 0)), (1, (1, 1)), (3, (1, 1)), (5, (1, x2))]) (stN := [(1, 0), (0, 1), (4, 2)]) (hsN := [(4, [(4, 1), (1, 1)], []), (101, [], [0, 0, 0, 0, 0, 0]), (101, [], [0, 0, 0, 0, 0, 0])]) rfl rfl rfl ?_
  refine jT_xlload_n (v := (1, 1)) (pcN := 28) jI_10_27 rfl rfl rfl ?_
  refine jT_xlmul (x := 0) (y := 1) (z := 0) (pcN := 29) jI_10_28 rfl (by decide) rfl ?_
  refine jT_adv 1 (pcN := 30) (LN := [(8, (0, 1)), (7, (4, 2)), (0, (4, 0)), (1, (1, 1)), (3, (1, 1)), (5, (1, x2))]) (stN := []) (hsN := [(4, [(4, 1), (1, 1)], []), (101, [], [0, 0, 0, 0, 0, 0]), (101, [], [0, 0, 0, 0, 0, 0])]) (c1 := 0) (s1 := 0) (c2 := 1) (s2 := 2) (by exact rfl) ?_ (by omega) (by omega)
  refine jT_xiinc (x := 1) (z := 2) (LN := [(8, (0, 2)), (7, (4, 2)), (0, (4, 0)), (1, (1, 1)), (3, (1, 1)), (5, (1, x2))]) (pcN := 33) jI_10_30 rfl rfl (by decide) rfl rfl ?_
  refine jT_xgoto (pcN := 9) jI_10_33 rfl ?_
  refine jT_xiload (v := (0, 2)) (pcN := 11) jI_10_9 rfl rfl rfl ?_
  refine jT_xbipush (k := 6) (pcN := 13) jI_10_11 (by decide) rfl ?_
  refine jT_xicF (t := 36) (pcN := 16) jI_10_13 rfl (by decide +kernel) rfl rfl ?_
  refine jT_xaload (v := (4, 2)) (pcN := 18) jI_10_16 rfl rfl rfl ?_
  refine jT_xiload (v := (0, 2)) (pcN := 20) jI_10_18 rfl rfl rfl ?_
  refine jT_xaload_n (v := (4, 0)) (pcN := 21) jI_10_20 rfl rfl rfl ?_
  refine jT_xgetf (a := 0) (t := 1) (ci := 4) (fi := 0) (c := (4, [(4, 1), (1, 1)], [])) (v := (4, 1)) (pcN := 24) jI_10_21 rfl rfl rfl rfl rfl rfl rfl ?_
  refine jT_xiload (v := (0, 2)) (pcN := 26) jI_10_24 rfl rfl rfl ?_
  refine jT_lald (x := 0) (a := 1) (j := 2) (fs := []) (X := [0, 0, 0, 0, 0, 0]) jI_10_26 rfl rfl rfl rfl ?_
  refine jT_eq (LN := [(8, (0, 2)), (7, (4, 2)), (0, (4, 0)), (1, (1, 1)), (3, (1, 1)), (5, (1, x2))]) (stN := [(1, 0), (0, 2), (4, 2)]) (hsN := [(4, [(4, 1), (1, 1)], []), (101, [], [0, 0, 0, 0, 0, 0]), (101, [], [0, 0, 0, 0, 0, 0])]) rfl rfl rfl ?_
  refine jT_xlload_n (v := (1, 1)) (pcN := 28) jI_10_27 rfl rfl rfl ?_
  refine jT_xlmul (x := 0) (y := 1) (z := 0) (pcN := 29) jI_10_28 rfl (by decide) rfl ?_
  refine jT_adv 1 (pcN := 30) (LN := [(8, (0, 2)), (7, (4, 2)), (0, (4, 0)), (1, (1, 1)), (3, (1, 1)), (5, (1, x2))]) (stN := []) (hsN := [(4, [(4, 1), (1, 1)], []), (101, [], [0, 0, 0, 0, 0, 0]), (101, [], [0, 0, 0, 0, 0, 0])]) (c1 := 0) (s1 := 0) (c2 := 1) (s2 := 2) (by exact rfl) ?_ (by omega) (by omega)
  refine jT_xiinc (x := 2) (z := 3) (LN := [(8, (0, 3)), (7, (4, 2)), (0, (4, 0)), (1, (1, 1)), (3, (1, 1)), (5, (1, x2))]) (pcN := 33) jI_10_30 rfl rfl (by decide) rfl rfl ?_
  refine jT_xgoto (pcN := 9) jI_10_33 rfl ?_
  refine jT_xiload (v := (0, 3)) (pcN := 11) jI_10_9 rfl rfl rfl ?_
  refine jT_xbipush (k := 6) (pcN := 13) jI_10_11 (by decide) rfl ?_
  refine jT_xicF (t := 36) (pcN := 16) jI_10_13 rfl (by decide +kernel) rfl rfl ?_
  refine jT_xaload (v := (4, 2)) (pcN := 18) jI_10_16 rfl rfl rfl ?_
  refine jT_xiload (v := (0, 3)) (pcN := 20) jI_10_18 rfl rfl rfl ?_
  refine jT_xaload_n (v := (4, 0)) (pcN := 21) jI_10_20 rfl rfl rfl ?_
  refine jT_xgetf (a := 0) (t := 1) (ci := 4) (fi := 0) (c := (4, [(4, 1), (1, 1)], [])) (v := (4, 1)) (pcN := 24) jI_10_21 rfl rfl rfl rfl rfl rfl rfl ?_
  refine jT_xiload (v := (0, 3)) (pcN := 26) jI_10_24 rfl rfl rfl ?_
  refine jT_lald (x := 0) (a := 1) (j := 3) (fs := []) (X := [0, 0, 0, 0, 0, 0]) jI_10_26 rfl rfl rfl rfl ?_
  refine jT_eq (LN := [(8, (0, 3)), (7, (4, 2)), (0, (4, 0)), (1, (1, 1)), (3, (1, 1)), (5, (1, x2))]) (stN := [(1, 0), (0, 3), (4, 2)]) (hsN := [(4, [(4, 1), (1, 1)], []), (101, [], [0, 0, 0, 0, 0, 0]), (101, [], [0, 0, 0, 0, 0, 0])]) rfl rfl rfl ?_
  refine jT_xlload_n (v := (1, 1)) (pcN := 28) jI_10_27 rfl rfl rfl ?_
  refine jT_xlmul (x := 0) (y := 1) (z := 0) (pcN := 29) jI_10_28 rfl (by decide) rfl ?_
  refine jT_adv 1 (pcN := 30) (LN := [(8, (0, 3)), (7, (4, 2)), (0, (4, 0)), (1, (1, 1)), (3, (1, 1)), (5, (1, x2))]) (stN := []) (hsN := [(4, [(4, 1), (1, 1)], []), (101, [], [0, 0, 0, 0, 0, 0]), (101, [], [0, 0, 0, 0, 0, 0])]) (c1 := 0) (s1 := 0) (c2 := 1) (s2 := 2) (by exact rfl) ?_ (by omega) (by omega)
  refine jT_xiinc (x := 3) (z := 4) (LN := [(8, (0, 4)), (7, (4, 2)), (0, (4, 0)), (1, (1, 1)), (3, (1, 1)), (5, (1, x2))]) (pcN := 33) jI_10_30 rfl rfl (by decide) rfl rfl ?_
  refine jT_xgoto (pcN := 9) jI_10_33 rfl ?_
  refine jT_xiload (v := (0, 4)) (pcN := 11) jI_10_9 rfl rfl rfl ?_
  refine jT_xbipush (k := 6) (pcN := 13) jI_10_11 (by decide) rfl ?_
  refine jT_xicF (t := 36) (pcN := 16) jI_10_13 rfl (by decide +kernel) rfl rfl ?_
  refine jT_xaload (v := (4, 2)) (pcN := 18) jI_10_16 rfl rfl rfl ?_
  refine jT_xiload (v := (0, 4)) (pcN := 20) jI_10_18 rfl rfl rfl ?_
  refine jT_xaload_n (v := (4, 0)) (pcN := 21) jI_10_20 rfl rfl rfl ?_
  refine jT_xgetf (a := 0) (t := 1) (ci := 4) (fi := 0) (c := (4, [(4, 1), (1, 1)], [])) (v := (4, 1)) (pcN := 24) jI_10_21 rfl rfl rfl rfl rfl rfl rfl ?_
  refine jT_xiload (v := (0, 4)) (pcN := 26) jI_10_24 rfl rfl rfl ?_
  refine jT_lald (x := 0) (a := 1) (j := 4) (fs := []) (X := [0, 0, 0, 0, 0, 0]) jI_10_26 rfl rfl rfl rfl ?_
  refine jT_eq (LN := [(8, (0, 4)), (7, (4, 2)), (0, (4, 0)), (1, (1, 1)), (3, (1, 1)), (5, (1, x2))]) (stN := [(1, 0), (0, 4), (4, 2)]) (hsN := [(4, [(4, 1), (1, 1)], []), (101, [], [0, 0, 0, 0, 0, 0]), (101, [], [0, 0, 0, 0, 0, 0])]) rfl rfl rfl ?_
  refine jT_xlload_n (v := (1, 1)) (pcN := 28) jI_10_27 rfl rfl rfl ?_
  refine jT_xlmul (x := 0) (y := 1) (z := 0) (pcN := 29) jI_10_28 rfl (by decide) rfl ?_
  refine jT_adv 1 (pcN := 30) (LN := [(8, (0, 4)), (7, (4, 2)), (0, (4, 0)), (1, (1, 1)), (3, (1, 1)), (5, (1, x2))]) (stN := []) (hsN := [(4, [(4, 1), (1, 1)], []), (101, [], [0, 0, 0, 0, 0, 0]), (101, [], [0, 0, 0, 0, 0, 0])]) (c1 := 0) (s1 := 0) (c2 := 1) (s2 := 2) (by exact rfl) ?_ (by omega) (by omega)
  refine jT_xiinc (x := 4) (z := 5) (LN := [(8, (0, 5)), (7, (4, 2)), (0, (4, 0)), (1, (1, 1)), (3, (1, 1)), (5, (1, x2))]) (pcN := 33) jI_10_30 rfl rfl (by decide) rfl rfl ?_
  refine jT_xgoto (pcN := 9) jI_10_33 rfl ?_
  refine jT_xiload (v := (0, 5)) (pcN := 11) jI_10_9 rfl rfl rfl ?_
  refine jT_xbipush (k := 6) (pcN := 13) jI_10_11 (by decide) rfl ?_
  refine jT_xicF (t := 36) (pcN := 16) jI_10_13 rfl (by decide +kernel) rfl rfl ?_
  refine jT_xaload (v := (4, 2)) (pcN := 18) jI_10_16 rfl rfl rfl ?_
  refine jT_xiload (v := (0, 5)) (pcN := 20) jI_10_18 rfl rfl rfl ?_
  refine jT_xaload_n (v := (4, 0)) (pcN := 21) jI_10_20 rfl rfl rfl ?_
  refine jT_xgetf (a := 0) (t := 1) (ci := 4) (fi := 0) (c := (4, [(4, 1), (1, 1)], [])) (v := (4, 1)) (pcN := 24) jI_10_21 rfl rfl rfl rfl rfl rfl rfl ?_
  refine jT_xiload (v := (0, 5)) (pcN := 26) jI_10_24 rfl rfl rfl ?_
  refine jT_lald (x := 0) (a := 1) (j := 5) (fs := []) (X := [0, 0, 0, 0, 0, 0]) jI_10_26 rfl rfl rfl rfl ?_
  refine jT_eq (LN := [(8, (0, 5)), (7, (4, 2)), (0, (4, 0)), (1, (1, 1)), (3, (1, 1)), (5, (1, x2))]) (stN := [(1, 0), (0, 5), (4, 2)]) (hsN := [(4, [(4, 1), (1, 1)], []), (101, [], [0, 0, 0, 0, 0, 0]), (101, [], [0, 0, 0, 0, 0, 0])]) rfl rfl rfl ?_
  refine jT_xlload_n (v := (1, 1)) (pcN := 28) jI_10_27 rfl rfl rfl ?_
  refine jT_xlmul (x := 0) (y := 1) (z := 0) (pcN := 29) jI_10_28 rfl (by decide) rfl ?_
  refine jT_adv 1 (pcN := 30) (LN := [(8, (0, 5)), (7, (4, 2)), (0, (4, 0)), (1, (1, 1)), (3, (1, 1)), (5, (1, x2))]) (stN := []) (hsN := [(4, [(4, 1), (1, 1)], []), (101, [], [0, 0, 0, 0, 0, 0]), (101, [], [0, 0, 0, 0, 0, 0])]) (c1 := 0) (s1 := 0) (c2 := 1) (s2 := 2) (by exact rfl) ?_ (by omega) (by omega)
  refine jT_xiinc (x := 5) (z := 6) (LN := [(8, (0, 6)), (7, (4, 2)), (0, (4, 0)), (1, (1, 1)), (3, (1, 1)), (5, (1, x2))]) (pcN := 33) jI_10_30 rfl rfl (by decide) rfl rfl ?_
  refine jT_xgoto (pcN := 9) jI_10_33 rfl ?_
  refine jT_xiload (v := (0, 6)) (pcN := 11) jI_10_9 rfl rfl rfl ?_
  refine jT_xbipush (k := 6) (pcN := 13) jI_10_11 (by decide) rfl ?_
  refine jT_xicT (pcN := 36) jI_10_13 rfl (by decide +kernel) rfl ?_
  refine jT_xaload (v := (4, 2)) (pcN := 38) jI_10_36 rfl rfl rfl ?_
  refine jT_xiconst (k := 0) (pcN := 39) jI_10_38 rfl ?_
  refine jT_adv 1 (pcN := 40) (LN := [(8, (0, 6)), (7, (4, 2)), (0, (4, 0)), (1, (1, 1)), (3, (1, 1)), (5, (1, x2))]) (stN := [(0, 0), (4, 2), (0, 0), (4, 2)]) (hsN := [(4, [(4, 1), (1, 1)], []), (101, [], [0, 0, 0, 0, 0, 0]), (101, [], [0, 0, 0, 0, 0, 0])]) (c1 := 0) (s1 := 0) (c2 := 1) (s2 := 2) (by exact rfl) ?_ (by omega) (by omega)
  refine jT_lald (x := 0) (a := 2) (j := 0) (fs := []) (X := [0, 0, 0, 0, 0, 0]) jI_10_40 rfl rfl rfl rfl ?_
  refine jT_eq (LN := [(8, (0, 6)), (7, (4, 2)), (0, (4, 0)), (1, (1, 1)), (3, (1, 1)), (5, (1, x2))]) (stN := [(1, 0), (0, 0), (4, 2)]) (hsN := [(4, [(4, 1), (1, 1)], []), (101, [], [0, 0, 0, 0, 0, 0]), (101, [], [0, 0, 0, 0, 0, 0])]) rfl rfl rfl ?_
  refine jT_xlload (v := (1, x2)) (pcN := 43) jI_10_41 rfl rfl rfl ?_
  refine jT_xaload_n (v := (4, 0)) (pcN := 44) jI_10_43 rfl rfl rfl ?_
  refine jT_xgetf (a := 0) (t := 1) (ci := 4) (fi := 1) (c := (4, [(4, 1), (1, 1)], [])) (v := (1, 1)) (pcN := 47) jI_10_44 rfl rfl rfl rfl rfl rfl rfl ?_
  refine jT_xlmul (x := x2) (y := 1) (z := x2) (pcN := 48) jI_10_47 rfl (by omega) rfl ?_
  refine jT_xlload_n (v := (1, 1)) (pcN := 49) jI_10_48 rfl rfl rfl ?_
  refine jT_xlmul (x := x2) (y := 1) (z := x2) (pcN := 50) jI_10_49 rfl (by omega) rfl ?_
  refine jT_xladd (x := 0) (y := x2) (z := x2) (pcN := 51) jI_10_50 rfl (by omega) rfl ?_
  refine jT_adv 3 (pcN := 56) (LN := [(8, (0, 6)), (7, (4, 2)), (0, (4, 0)), (1, (1, 1)), (3, (1, 1)), (5, (1, x2))]) (stN := [(4, 3), (4, 3)]) (hsN := [(4, [(4, 1), (1, 1)], []), (101, [], [0, 0, 0, 0, 0, 0]), (101, [], [x2, 0, 0, 0, 0, 0]), (4, [(4, (-1)), (1, 0)], [])]) (c1 := 1) (s1 := 2) (c2 := 0) (s2 := 0) (by exact rfl) ?_ (by omega) (by omega)
  refine jT_xaload (v := (4, 2)) (pcN := 58) jI_10_56 rfl rfl rfl ?_
  refine jT_xaload_n (v := (4, 0)) (pcN := 59) jI_10_58 rfl rfl rfl ?_
  refine jT_xgetf (a := 0) (t := 1) (ci := 4) (fi := 1) (c := (4, [(4, 1), (1, 1)], [])) (v := (1, 1)) (pcN := 62) jI_10_59 rfl rfl rfl rfl rfl rfl rfl ?_
  refine jT_xlload_n (v := (1, 1)) (pcN := 63) jI_10_62 rfl rfl rfl ?_
  refine jT_xlmul (x := 1) (y := 1) (z := 1) (pcN := 64) jI_10_63 rfl (by decide) rfl ?_
  refine jT_callB [3, 2] (y := 9) (pcN := 67) (dC := 1) (bc1 := 0) (bc2 := 0) (c1 := 0) (c2 := 0) (as := [(4, 3), (4, 2), (1, 1)]) (asC := [(4, 0), (4, 1), (1, 1)]) (LN := [(8, (0, 6)), (7, (4, 2)), (0, (4, 0)), (1, (1, 1)), (3, (1, 1)), (5, (1, x2))]) (stN := [(4, 3)]) (hsC := [(4, [(4, (-1)), (1, 0)], []), (101, [], [x2, 0, 0, 0, 0, 0])]) (hsD := [(4, [(4, 1), (1, 1)], []), (101, [], [x2, 0, 0, 0, 0, 0])]) (v := (9, 0)) (st2 := [(4, 3)]) (hs2 := [(4, [(4, 1), (1, 1)], []), (101, [], [0, 0, 0, 0, 0, 0]), (101, [], [x2, 0, 0, 0, 0, 0]), (4, [(4, 2), (1, 1)], [])]) (jA_9_540 (d := 0) (by omega)) (by rfl) (by rfl) (by rfl) (by rfl) ⟨rfl, rfl, trivial⟩ (by rfl) (by rfl) (by omega) (by show 2 ≤ 4; omega) (by omega) (by omega) rfl rfl ?_
  exact jT_ret rfl (by decide) (by show 2 ≤ 4; decide) (by omega) (by omega) ⟨rfl, rfl, rfl⟩
theorem jA_116_542 {xs : List Int} {d : Nat} {x2 : Int} (h_x2 : (-200) ≤ x2 ∧ x2 ≤ (-1)) : jT xs d 116 1 0 [(0, (4, 0)), (1, (0, x2)), (2, (0, (-200))), (3, (0, 200))] [] [jgh] 0 0 (fun k v hsN => k = 0 ∧ v = (9, 0) ∧ hsN = [jgh] ++ []) := by
  refine jT_xiload_n (v := (0, x2)) (pcN := 1) jI_116_0 rfl rfl rfl ?_
  refine jT_xiload_n (v := (0, (-200))) (pcN := 2) jI_116_1 rfl rfl rfl ?_
  refine jT_icF (a := x2) (b := (-200)) (t := 10) (by rfl) (by rfl) (by rfl) (jw_idd (by omega) (by omega)) (jw_idd (by omega) (by omega)) (by simp only [jcP] <;> omega) ?_
  refine jT_xiload_n (v := (0, x2)) (pcN := 6) jI_116_5 rfl rfl rfl ?_
  refine jT_xiload_n (v := (0, 200)) (pcN := 7) jI_116_6 rfl rfl rfl ?_
  refine jT_icT (a := x2) (b := 200) (t := 21) (by rfl) (by rfl) (by rfl) (jw_idd (by omega) (by omega)) (jw_idd (by omega) (by omega)) (by simp only [jcP] <;> omega) ?_
  exact jT_ret rfl (by decide) (by show 1 ≤ 1; decide) (by omega) (by omega) ⟨rfl, rfl, rfl⟩
theorem jA_97_543 {xs : List Int} {d : Nat} {x2 : Int} (h_x2 : (-200) ≤ x2 ∧ x2 ≤ (-1)) : jT xs d 97 1 0 [(0, (4, 0)), (1, (1, 1))] [] [(101, [], [x2, 0, 0, 0, 0, 0])] 0 0 (fun k v hsN => k = 0 ∧ v = (1, 1) ∧ hsN = [(101, [], [x2, 0, 0, 0, 0, 0])] ++ []) := by
  refine jT_xlload_n (v := (1, 1)) (pcN := 1) jI_97_0 rfl rfl rfl ?_
  refine jT_xlconst (z := 1) (pcN := 2) jI_97_1 rfl rfl ?_
  refine jT_lcmp (a := 1) (b := 1) (z := 0) (by rfl) (by rfl) (by decide +kernel) (by decide +kernel) (by decide) ?_
  refine jT_xifT (pcN := 10) jI_97_3 rfl (by decide +kernel) rfl ?_
  refine jT_xlload_n (v := (1, 1)) (pcN := 11) jI_97_10 rfl rfl rfl ?_
  refine jT_xlstore_n (v := (1, 1)) (LN := [(3, (1, 1)), (0, (4, 0)), (1, (1, 1))]) (pcN := 12) jI_97_11 rfl rfl rfl rfl ?_
  refine jT_xiconst (k := 0) (pcN := 13) jI_97_12 rfl ?_
  refine jT_xistore (v := (0, 0)) (LN := [(5, (0, 0)), (3, (1, 1)), (0, (4, 0)), (1, (1, 1))]) (pcN := 15) jI_97_13 rfl rfl rfl rfl ?_
  refine jT_xiload (v := (0, 0)) (pcN := 17) jI_97_15 rfl rfl rfl ?_
  refine jT_xaload_n (v := (4, 0)) (pcN := 18) jI_97_17 rfl rfl rfl ?_
  refine jT_adv 1 (pcN := 19) (LN := [(5, (0, 0)), (3, (1, 1)), (0, (4, 0)), (1, (1, 1))]) (stN := [(0, 6), (0, 0)]) (hsN := [(101, [], [x2, 0, 0, 0, 0, 0])]) (c1 := 0) (s1 := 0) (c2 := 0) (s2 := 0) (by exact rfl) ?_ (by omega) (by omega)
  refine jT_xicF (t := 43) (pcN := 22) jI_97_19 rfl (by decide +kernel) rfl rfl ?_
  refine jT_xlload_n (v := (1, 1)) (pcN := 23) jI_97_22 rfl rfl rfl ?_
  refine jT_xlconst (z := 1) (pcN := 24) jI_97_23 rfl rfl ?_
  refine jT_lcmp (a := 1) (b := 1) (z := 0) (by rfl) (by rfl) (by decide +kernel) (by decide +kernel) (by decide) ?_
  refine jT_xifT (pcN := 43) jI_97_25 rfl (by decide +kernel) rfl ?_
  refine jT_xlload_n (v := (1, 1)) (pcN := 44) jI_97_43 rfl rfl rfl ?_
  refine jT_xlconst (z := 1) (pcN := 45) jI_97_44 rfl rfl ?_
  refine jT_lcmp (a := 1) (b := 1) (z := 0) (by rfl) (by rfl) (by decide +kernel) (by decide +kernel) (by decide) ?_
  refine jT_xifF (t := 61) (pcN := 49) jI_97_46 rfl (by decide +kernel) rfl rfl ?_
  refine jT_xlload_n (v := (1, 1)) (pcN := 50) jI_97_49 rfl rfl rfl ?_
  refine jT_xlconst (z := 1) (pcN := 51) jI_97_50 rfl rfl ?_
  refine jT_lcmp (a := 1) (b := 1) (z := 0) (by rfl) (by rfl) (by decide +kernel) (by decide +kernel) (by decide) ?_
  refine jT_xifT (pcN := 59) jI_97_52 rfl (by decide +kernel) rfl ?_
  refine jT_xlload_n (v := (1, 1)) (pcN := 60) jI_97_59 rfl rfl rfl ?_
  exact jT_ret rfl (by decide) (by show 1 ≤ 1; decide) (by omega) (by omega) ⟨rfl, rfl, rfl⟩
theorem jA_9_544 {xs : List Int} {d : Nat} {x2 : Int} (h_x2 : (-200) ≤ x2 ∧ x2 ≤ (-1)) : jT xs (d + 1) 9 2 0 [(0, (4, 0)), (1, (4, 1)), (2, (1, 1))] [] [(4, [(4, (-1)), (1, 0)], []), (101, [], [x2, 0, 0, 0, 0, 0])] 0 0 (fun k v hsN => k = 0 ∧ v = (9, 0) ∧ hsN = [(4, [(4, 1), (1, 1)], []), (101, [], [x2, 0, 0, 0, 0, 0])]) := by
  refine jT_xaload_n (v := (4, 0)) (pcN := 1) jI_9_0 rfl rfl rfl ?_
  refine jT_adv 1 (pcN := 4) (LN := [(0, (4, 0)), (1, (4, 1)), (2, (1, 1))]) (stN := []) (hsN := [(4, [(4, (-1)), (1, 0)], []), (101, [], [x2, 0, 0, 0, 0, 0])]) (c1 := 0) (s1 := 0) (c2 := 0) (s2 := 0) (by exact rfl) ?_ (by omega) (by omega)
  refine jT_xaload_n (v := (4, 0)) (pcN := 5) jI_9_4 rfl rfl rfl ?_
  refine jT_xaload_n (v := (4, 1)) (pcN := 6) jI_9_5 rfl rfl rfl ?_
  refine jT_adv 1 (pcN := 9) (LN := [(0, (4, 0)), (1, (4, 1)), (2, (1, 1))]) (stN := []) (hsN := [(4, [(4, 1), (1, 0)], []), (101, [], [x2, 0, 0, 0, 0, 0])]) (c1 := 0) (s1 := 0) (c2 := 0) (s2 := 0) (by exact rfl) ?_ (by omega) (by omega)
  refine jT_xaload_n (v := (4, 0)) (pcN := 10) jI_9_9 rfl rfl rfl ?_
  refine jT_xaload_n (v := (4, 1)) (pcN := 11) jI_9_10 rfl rfl rfl ?_
  refine jT_xlload_n (v := (1, 1)) (pcN := 12) jI_9_11 rfl rfl rfl ?_
  refine jT_callA [1] (y := 97) (pcN := 15) (dC := 0) (bc1 := 0) (bc2 := 0) (c1 := 0) (c2 := 0) (as := [(4, 1), (1, 1)]) (asC := [(4, 0), (1, 1)]) (LN := [(0, (4, 0)), (1, (4, 1)), (2, (1, 1))]) (stN := [(4, 0)]) (hsC := [(101, [], [x2, 0, 0, 0, 0, 0])]) (ex := []) (v := (1, 1)) (st2 := [(1, 1), (4, 0)]) (hs2 := [(4, [(4, 1), (1, 0)], []), (101, [], [x2, 0, 0, 0, 0, 0])]) (jA_97_543 (d := 0) (by omega)) (by rfl) (by rfl) (by rfl) (by rfl) ⟨rfl, trivial⟩ (by rfl) (by rfl) (by omega) (by show 2 ≤ 2; omega) (by omega) (by omega) rfl rfl ?_
  refine jT_adv 1 (pcN := 18) (LN := [(0, (4, 0)), (1, (4, 1)), (2, (1, 1))]) (stN := []) (hsN := [(4, [(4, 1), (1, 1)], []), (101, [], [x2, 0, 0, 0, 0, 0])]) (c1 := 0) (s1 := 0) (c2 := 0) (s2 := 0) (by exact rfl) ?_ (by omega) (by omega)
  exact jT_ret rfl (by decide) (by show 2 ≤ 2; decide) (by omega) (by omega) ⟨rfl, rfl, rfl⟩
theorem jA_10_545 {xs : List Int} {d : Nat} {x2 : Int} (h_x2 : (-200) ≤ x2 ∧ x2 ≤ (-1)) : jT xs (d + 2) 10 2 0 [(0, (4, 0)), (1, (1, 1)), (3, (1, 1)), (5, (1, x2))] [] [(4, [(4, 1), (1, 1)], []), (101, [], [0, 0, 0, 0, 0, 0])] 2 8 (fun k v hsN => k = 0 ∧ v = (4, 3) ∧ hsN = [(4, [(4, 1), (1, 1)], []), (101, [], [0, 0, 0, 0, 0, 0])] ++ [(101, [], [x2, 0, 0, 0, 0, 0]), (4, [(4, 2), (1, 1)], [])]) := by
  refine jT_xbipush (k := 6) (pcN := 2) jI_10_0 (by decide) rfl ?_
  refine jT_adv 1 (pcN := 4) (LN := [(0, (4, 0)), (1, (1, 1)), (3, (1, 1)), (5, (1, x2))]) (stN := [(4, 2)]) (hsN := [(4, [(4, 1), (1, 1)], []), (101, [], [0, 0, 0, 0, 0, 0]), (101, [], [0, 0, 0, 0, 0, 0])]) (c1 := 1) (s1 := 6) (c2 := 1) (s2 := 2) (by exact rfl) ?_ (by omega) (by omega)
  refine jT_xastore (v := (4, 2)) (LN := [(7, (4, 2)), (0, (4, 0)), (1, (1, 1)), (3, (1, 1)), (5, (1, x2))]) (pcN := 6) jI_10_4 rfl rfl rfl rfl ?_
  refine jT_xiconst (k := 0) (pcN := 7) jI_10_6 rfl ?_
  refine jT_xistore (v := (0, 0)) (LN := [(8, (0, 0)), (7, (4, 2)), (0, (4, 0)), (1, (1, 1)), (3, (1, 1)), (5, (1, x2))]) (pcN := 9) jI_10_7 rfl rfl rfl rfl ?_
  refine jT_xiload (v := (0, 0)) (pcN := 11) jI_10_9 rfl rfl rfl ?_
  refine jT_xbipush (k := 6) (pcN := 13) jI_10_11 (by decide) rfl ?_
  refine jT_xicF (t := 36) (pcN := 16) jI_10_13 rfl (by decide +kernel) rfl rfl ?_
  refine jT_xaload (v := (4, 2)) (pcN := 18) jI_10_16 rfl rfl rfl ?_
  refine jT_xiload (v := (0, 0)) (pcN := 20) jI_10_18 rfl rfl rfl ?_
  refine jT_xaload_n (v := (4, 0)) (pcN := 21) jI_10_20 rfl rfl rfl ?_
  refine jT_xgetf (a := 0) (t := 1) (ci := 4) (fi := 0) (c := (4, [(4, 1), (1, 1)], [])) (v := (4, 1)) (pcN := 24) jI_10_21 rfl rfl rfl rfl rfl rfl rfl ?_
  refine jT_xiload (v := (0, 0)) (pcN := 26) jI_10_24 rfl rfl rfl ?_
  refine jT_lald (x := 0) (a := 1) (j := 0) (fs := []) (X := [0, 0, 0, 0, 0, 0]) jI_10_26 rfl rfl rfl rfl ?_
  refine jT_eq (LN := [(8, (0, 0)), (7, (4, 2)), (0, (4, 0)), (1, (1, 1)), (3, (1, 1)), (5, (1, x2))]) (stN := [(1, 0), (0, 0), (4, 2)]) (hsN := [(4, [(4, 1), (1, 1)], []), (101, [], [0, 0, 0, 0, 0, 0]), (101, [], [0, 0, 0, 0, 0, 0])]) rfl rfl rfl ?_
  refine jT_xlload_n (v := (1, 1)) (pcN := 28) jI_10_27 rfl rfl rfl ?_
  refine jT_xlmul (x := 0) (y := 1) (z := 0) (pcN := 29) jI_10_28 rfl (by decide) rfl ?_
  refine jT_adv 1 (pcN := 30) (LN := [(8, (0, 0)), (7, (4, 2)), (0, (4, 0)), (1, (1, 1)), (3, (1, 1)), (5, (1, x2))]) (stN := []) (hsN := [(4, [(4, 1), (1, 1)], []), (101, [], [0, 0, 0, 0, 0, 0]), (101, [], [0, 0, 0, 0, 0, 0])]) (c1 := 0) (s1 := 0) (c2 := 1) (s2 := 2) (by exact rfl) ?_ (by omega) (by omega)
  refine jT_xiinc (x := 0) (z := 1) (LN := [(8, (0, 1)), (7, (4, 2)), (0, (4, 0)), (1, (1, 1)), (3, (1, 1)), (5, (1, x2))]) (pcN := 33) jI_10_30 rfl rfl (by decide) rfl rfl ?_
  refine jT_xgoto (pcN := 9) jI_10_33 rfl ?_
  refine jT_xiload (v := (0, 1)) (pcN := 11) jI_10_9 rfl rfl rfl ?_
  refine jT_xbipush (k := 6) (pcN := 13) jI_10_11 (by decide) rfl ?_
  refine jT_xicF (t := 36) (pcN := 16) jI_10_13 rfl (by decide +kernel) rfl rfl ?_
  refine jT_xaload (v := (4, 2)) (pcN := 18) jI_10_16 rfl rfl rfl ?_
  refine jT_xiload (v := (0, 1)) (pcN := 20) jI_10_18 rfl rfl rfl ?_
  refine jT_xaload_n (v := (4, 0)) (pcN := 21) jI_10_20 rfl rfl rfl ?_
  refine jT_xgetf (a := 0) (t := 1) (ci := 4) (fi := 0) (c := (4, [(4, 1), (1, 1)], [])) (v := (4, 1)) (pcN := 24) jI_10_21 rfl rfl rfl rfl rfl rfl rfl ?_
  refine jT_xiload (v := (0, 1)) (pcN := 26) jI_10_24 rfl rfl rfl ?_
  refine jT_lald (x := 0) (a := 1) (j := 1) (fs := []) (X := [0, 0, 0, 0, 0, 0]) jI_10_26 rfl rfl rfl rfl ?_
  refine jT_eq (LN := [(8, (0, 1)), (7, (4, 2)), (0, (4, 0)), (1, (1, 1)), (3, (1, 1)), (5, (1, x2))]) (stN := [(1, 0), (0, 1), (4, 2)]) (hsN := [(4, [(4, 1), (1, 1)], []), (101, [], [0, 0, 0, 0, 0, 0]), (101, [], [0, 0, 0, 0, 0, 0])]) rfl rfl rfl ?_
  refine jT_xlload_n (v := (1, 1)) (pcN := 28) jI_10_27 rfl rfl rfl ?_
  refine jT_xlmul (x := 0) (y := 1) (z := 0) (pcN := 29) jI_10_28 rfl (by decide) rfl ?_
  refine jT_adv 1 (pcN := 30) (LN := [(8, (0, 1)), (7, (4, 2)), (0, (4, 0)), (1, (1, 1)), (3, (1, 1)), (5, (1, x2))]) (stN := []) (hsN := [(4, [(4, 1), (1, 1)], []), (101, [], [0, 0, 0, 0, 0, 0]), (101, [], [0, 0, 0, 0, 0, 0])]) (c1 := 0) (s1 := 0) (c2 := 1) (s2 := 2) (by exact rfl) ?_ (by omega) (by omega)
  refine jT_xiinc (x := 1) (z := 2) (LN := [(8, (0, 2)), (7, (4, 2)), (0, (4, 0)), (1, (1, 1)), (3, (1, 1)), (5, (1, x2))]) (pcN := 33) jI_10_30 rfl rfl (by decide) rfl rfl ?_
  refine jT_xgoto (pcN := 9) jI_10_33 rfl ?_
  refine jT_xiload (v := (0, 2)) (pcN := 11) jI_10_9 rfl rfl rfl ?_
  refine jT_xbipush (k := 6) (pcN := 13) jI_10_11 (by decide) rfl ?_
  refine jT_xicF (t := 36) (pcN := 16) jI_10_13 rfl (by decide +kernel) rfl rfl ?_
  refine jT_xaload (v := (4, 2)) (pcN := 18) jI_10_16 rfl rfl rfl ?_
  refine jT_xiload (v := (0, 2)) (pcN := 20) jI_10_18 rfl rfl rfl ?_
  refine jT_xaload_n (v := (4, 0)) (pcN := 21) jI_10_20 rfl rfl rfl ?_
  refine jT_xgetf (a := 0) (t := 1) (ci := 4) (fi := 0) (c := (4, [(4, 1), (1, 1)], [])) (v := (4, 1)) (pcN := 24) jI_10_21 rfl rfl rfl rfl rfl rfl rfl ?_
  refine jT_xiload (v := (0, 2)) (pcN := 26) jI_10_24 rfl rfl rfl ?_
  refine jT_lald (x := 0) (a := 1) (j := 2) (fs := []) (X := [0, 0, 0, 0, 0, 0]) jI_10_26 rfl rfl rfl rfl ?_
  refine jT_eq (LN := [(8, (0, 2)), (7, (4, 2)), (0, (4, 0)), (1, (1, 1)), (3, (1, 1)), (5, (1, x2))]) (stN := [(1, 0), (0, 2), (4, 2)]) (hsN := [(4, [(4, 1), (1, 1)], []), (101, [], [0, 0, 0, 0, 0, 0]), (101, [], [0, 0, 0, 0, 0, 0])]) rfl rfl rfl ?_
  refine jT_xlload_n (v := (1, 1)) (pcN := 28) jI_10_27 rfl rfl rfl ?_
  refine jT_xlmul (x := 0) (y := 1) (z := 0) (pcN := 29) jI_10_28 rfl (by decide) rfl ?_
  refine jT_adv 1 (pcN := 30) (LN := [(8, (0, 2)), (7, (4, 2)), (0, (4, 0)), (1, (1, 1)), (3, (1, 1)), (5, (1, x2))]) (stN := []) (hsN := [(4, [(4, 1), (1, 1)], []), (101, [], [0, 0, 0, 0, 0, 0]), (101, [], [0, 0, 0, 0, 0, 0])]) (c1 := 0) (s1 := 0) (c2 := 1) (s2 := 2) (by exact rfl) ?_ (by omega) (by omega)
  refine jT_xiinc (x := 2) (z := 3) (LN := [(8, (0, 3)), (7, (4, 2)), (0, (4, 0)), (1, (1, 1)), (3, (1, 1)), (5, (1, x2))]) (pcN := 33) jI_10_30 rfl rfl (by decide) rfl rfl ?_
  refine jT_xgoto (pcN := 9) jI_10_33 rfl ?_
  refine jT_xiload (v := (0, 3)) (pcN := 11) jI_10_9 rfl rfl rfl ?_
  refine jT_xbipush (k := 6) (pcN := 13) jI_10_11 (by decide) rfl ?_
  refine jT_xicF (t := 36) (pcN := 16) jI_10_13 rfl (by decide +kernel) rfl rfl ?_
  refine jT_xaload (v := (4, 2)) (pcN := 18) jI_10_16 rfl rfl rfl ?_
  refine jT_xiload (v := (0, 3)) (pcN := 20) jI_10_18 rfl rfl rfl ?_
  refine jT_xaload_n (v := (4, 0)) (pcN := 21) jI_10_20 rfl rfl rfl ?_
  refine jT_xgetf (a := 0) (t := 1) (ci := 4) (fi := 0) (c := (4, [(4, 1), (1, 1)], [])) (v := (4, 1)) (pcN := 24) jI_10_21 rfl rfl rfl rfl rfl rfl rfl ?_
  refine jT_xiload (v := (0, 3)) (pcN := 26) jI_10_24 rfl rfl rfl ?_
  refine jT_lald (x := 0) (a := 1) (j := 3) (fs := []) (X := [0, 0, 0, 0, 0, 0]) jI_10_26 rfl rfl rfl rfl ?_
  refine jT_eq (LN := [(8, (0, 3)), (7, (4, 2)), (0, (4, 0)), (1, (1, 1)), (3, (1, 1)), (5, (1, x2))]) (stN := [(1, 0), (0, 3), (4, 2)]) (hsN := [(4, [(4, 1), (1, 1)], []), (101, [], [0, 0, 0, 0, 0, 0]), (101, [], [0, 0, 0, 0, 0, 0])]) rfl rfl rfl ?_
  refine jT_xlload_n (v := (1, 1)) (pcN := 28) jI_10_27 rfl rfl rfl ?_
  refine jT_xlmul (x := 0) (y := 1) (z := 0) (pcN := 29) jI_10_28 rfl (by decide) rfl ?_
  refine jT_adv 1 (pcN := 30) (LN := [(8, (0, 3)), (7, (4, 2)), (0, (4, 0)), (1, (1, 1)), (3, (1, 1)), (5, (1, x2))]) (stN := []) (hsN := [(4, [(4, 1), (1, 1)], []), (101, [], [0, 0, 0, 0, 0, 0]), (101, [], [0, 0, 0, 0, 0, 0])]) (c1 := 0) (s1 := 0) (c2 := 1) (s2 := 2) (by exact rfl) ?_ (by omega) (by omega)
  refine jT_xiinc (x := 3) (z := 4) (LN := [(8, (0, 4)), (7, (4, 2)), (0, (4, 0)), (1, (1, 1)), (3, (1, 1)), (5, (1, x2))]) (pcN := 33) jI_10_30 rfl rfl (by decide) rfl rfl ?_
  refine jT_xgoto (pcN := 9) jI_10_33 rfl ?_
  refine jT_xiload (v := (0, 4)) (pcN := 11) jI_10_9 rfl rfl rfl ?_
  refine jT_xbipush (k := 6) (pcN := 13) jI_10_11 (by decide) rfl ?_
  refine jT_xicF (t := 36) (pcN := 16) jI_10_13 rfl (by decide +kernel) rfl rfl ?_
  refine jT_xaload (v := (4, 2)) (pcN := 18) jI_10_16 rfl rfl rfl ?_
  refine jT_xiload (v := (0, 4)) (pcN := 20) jI_10_18 rfl rfl rfl ?_
  refine jT_xaload_n (v := (4, 0)) (pcN := 21) jI_10_20 rfl rfl rfl ?_
  refine jT_xgetf (a := 0) (t := 1) (ci := 4) (fi := 0) (c := (4, [(4, 1), (1, 1)], [])) (v := (4, 1)) (pcN := 24) jI_10_21 rfl rfl rfl rfl rfl rfl rfl ?_
  refine jT_xiload (v := (0, 4)) (pcN := 26) jI_10_24 rfl rfl rfl ?_
  refine jT_lald (x := 0) (a := 1) (j := 4) (fs := []) (X := [0, 0, 0, 0, 0, 0]) jI_10_26 rfl rfl rfl rfl ?_
  refine jT_eq (LN := [(8, (0, 4)), (7, (4, 2)), (0, (4, 0)), (1, (1, 1)), (3, (1, 1)), (5, (1, x2))]) (stN := [(1, 0), (0, 4), (4, 2)]) (hsN := [(4, [(4, 1), (1, 1)], []), (101, [], [0, 0, 0, 0, 0, 0]), (101, [], [0, 0, 0, 0, 0, 0])]) rfl rfl rfl ?_
  refine jT_xlload_n (v := (1, 1)) (pcN := 28) jI_10_27 rfl rfl rfl ?_
  refine jT_xlmul (x := 0) (y := 1) (z := 0) (pcN := 29) jI_10_28 rfl (by decide) rfl ?_
  refine jT_adv 1 (pcN := 30) (LN := [(8, (0, 4)), (7, (4, 2)), (0, (4, 0)), (1, (1, 1)), (3, (1, 1)), (5, (1, x2))]) (stN := []) (hsN := [(4, [(4, 1), (1, 1)], []), (101, [], [0, 0, 0, 0, 0, 0]), (101, [], [0, 0, 0, 0, 0, 0])]) (c1 := 0) (s1 := 0) (c2 := 1) (s2 := 2) (by exact rfl) ?_ (by omega) (by omega)
  refine jT_xiinc (x := 4) (z := 5) (LN := [(8, (0, 5)), (7, (4, 2)), (0, (4, 0)), (1, (1, 1)), (3, (1, 1)), (5, (1, x2))]) (pcN := 33) jI_10_30 rfl rfl (by decide) rfl rfl ?_
  refine jT_xgoto (pcN := 9) jI_10_33 rfl ?_
  refine jT_xiload (v := (0, 5)) (pcN := 11) jI_10_9 rfl rfl rfl ?_
  refine jT_xbipush (k := 6) (pcN := 13) jI_10_11 (by decide) rfl ?_
  refine jT_xicF (t := 36) (pcN := 16) jI_10_13 rfl (by decide +kernel) rfl rfl ?_
  refine jT_xaload (v := (4, 2)) (pcN := 18) jI_10_16 rfl rfl rfl ?_
  refine jT_xiload (v := (0, 5)) (pcN := 20) jI_10_18 rfl rfl rfl ?_
  refine jT_xaload_n (v := (4, 0)) (pcN := 21) jI_10_20 rfl rfl rfl ?_
  refine jT_xgetf (a := 0) (t := 1) (ci := 4) (fi := 0) (c := (4, [(4, 1), (1, 1)], [])) (v := (4, 1)) (pcN := 24) jI_10_21 rfl rfl rfl rfl rfl rfl rfl ?_
  refine jT_xiload (v := (0, 5)) (pcN := 26) jI_10_24 rfl rfl rfl ?_
  refine jT_lald (x := 0) (a := 1) (j := 5) (fs := []) (X := [0, 0, 0, 0, 0, 0]) jI_10_26 rfl rfl rfl rfl ?_
  refine jT_eq (LN := [(8, (0, 5)), (7, (4, 2)), (0, (4, 0)), (1, (1, 1)), (3, (1, 1)), (5, (1, x2))]) (stN := [(1, 0), (0, 5), (4, 2)]) (hsN := [(4, [(4, 1), (1, 1)], []), (101, [], [0, 0, 0, 0, 0, 0]), (101, [], [0, 0, 0, 0, 0, 0])]) rfl rfl rfl ?_
  refine jT_xlload_n (v := (1, 1)) (pcN := 28) jI_10_27 rfl rfl rfl ?_
  refine jT_xlmul (x := 0) (y := 1) (z := 0) (pcN := 29) jI_10_28 rfl (by decide) rfl ?_
  refine jT_adv 1 (pcN := 30) (LN := [(8, (0, 5)), (7, (4, 2)), (0, (4, 0)), (1, (1, 1)), (3, (1, 1)), (5, (1, x2))]) (stN := []) (hsN := [(4, [(4, 1), (1, 1)], []), (101, [], [0, 0, 0, 0, 0, 0]), (101, [], [0, 0, 0, 0, 0, 0])]) (c1 := 0) (s1 := 0) (c2 := 1) (s2 := 2) (by exact rfl) ?_ (by omega) (by omega)
  refine jT_xiinc (x := 5) (z := 6) (LN := [(8, (0, 6)), (7, (4, 2)), (0, (4, 0)), (1, (1, 1)), (3, (1, 1)), (5, (1, x2))]) (pcN := 33) jI_10_30 rfl rfl (by decide) rfl rfl ?_
  refine jT_xgoto (pcN := 9) jI_10_33 rfl ?_
  refine jT_xiload (v := (0, 6)) (pcN := 11) jI_10_9 rfl rfl rfl ?_
  refine jT_xbipush (k := 6) (pcN := 13) jI_10_11 (by decide) rfl ?_
  refine jT_xicT (pcN := 36) jI_10_13 rfl (by decide +kernel) rfl ?_
  refine jT_xaload (v := (4, 2)) (pcN := 38) jI_10_36 rfl rfl rfl ?_
  refine jT_xiconst (k := 0) (pcN := 39) jI_10_38 rfl ?_
  refine jT_adv 1 (pcN := 40) (LN := [(8, (0, 6)), (7, (4, 2)), (0, (4, 0)), (1, (1, 1)), (3, (1, 1)), (5, (1, x2))]) (stN := [(0, 0), (4, 2), (0, 0), (4, 2)]) (hsN := [(4, [(4, 1), (1, 1)], []), (101, [], [0, 0, 0, 0, 0, 0]), (101, [], [0, 0, 0, 0, 0, 0])]) (c1 := 0) (s1 := 0) (c2 := 1) (s2 := 2) (by exact rfl) ?_ (by omega) (by omega)
  refine jT_lald (x := 0) (a := 2) (j := 0) (fs := []) (X := [0, 0, 0, 0, 0, 0]) jI_10_40 rfl rfl rfl rfl ?_
  refine jT_eq (LN := [(8, (0, 6)), (7, (4, 2)), (0, (4, 0)), (1, (1, 1)), (3, (1, 1)), (5, (1, x2))]) (stN := [(1, 0), (0, 0), (4, 2)]) (hsN := [(4, [(4, 1), (1, 1)], []), (101, [], [0, 0, 0, 0, 0, 0]), (101, [], [0, 0, 0, 0, 0, 0])]) rfl rfl rfl ?_
  refine jT_xlload (v := (1, x2)) (pcN := 43) jI_10_41 rfl rfl rfl ?_
  refine jT_xaload_n (v := (4, 0)) (pcN := 44) jI_10_43 rfl rfl rfl ?_
  refine jT_xgetf (a := 0) (t := 1) (ci := 4) (fi := 1) (c := (4, [(4, 1), (1, 1)], [])) (v := (1, 1)) (pcN := 47) jI_10_44 rfl rfl rfl rfl rfl rfl rfl ?_
  refine jT_xlmul (x := x2) (y := 1) (z := x2) (pcN := 48) jI_10_47 rfl (by omega) rfl ?_
  refine jT_xlload_n (v := (1, 1)) (pcN := 49) jI_10_48 rfl rfl rfl ?_
  refine jT_xlmul (x := x2) (y := 1) (z := x2) (pcN := 50) jI_10_49 rfl (by omega) rfl ?_
  refine jT_xladd (x := 0) (y := x2) (z := x2) (pcN := 51) jI_10_50 rfl (by omega) rfl ?_
  refine jT_adv 3 (pcN := 56) (LN := [(8, (0, 6)), (7, (4, 2)), (0, (4, 0)), (1, (1, 1)), (3, (1, 1)), (5, (1, x2))]) (stN := [(4, 3), (4, 3)]) (hsN := [(4, [(4, 1), (1, 1)], []), (101, [], [0, 0, 0, 0, 0, 0]), (101, [], [x2, 0, 0, 0, 0, 0]), (4, [(4, (-1)), (1, 0)], [])]) (c1 := 1) (s1 := 2) (c2 := 0) (s2 := 0) (by exact rfl) ?_ (by omega) (by omega)
  refine jT_xaload (v := (4, 2)) (pcN := 58) jI_10_56 rfl rfl rfl ?_
  refine jT_xaload_n (v := (4, 0)) (pcN := 59) jI_10_58 rfl rfl rfl ?_
  refine jT_xgetf (a := 0) (t := 1) (ci := 4) (fi := 1) (c := (4, [(4, 1), (1, 1)], [])) (v := (1, 1)) (pcN := 62) jI_10_59 rfl rfl rfl rfl rfl rfl rfl ?_
  refine jT_xlload_n (v := (1, 1)) (pcN := 63) jI_10_62 rfl rfl rfl ?_
  refine jT_xlmul (x := 1) (y := 1) (z := 1) (pcN := 64) jI_10_63 rfl (by decide) rfl ?_
  refine jT_callB [3, 2] (y := 9) (pcN := 67) (dC := 1) (bc1 := 0) (bc2 := 0) (c1 := 0) (c2 := 0) (as := [(4, 3), (4, 2), (1, 1)]) (asC := [(4, 0), (4, 1), (1, 1)]) (LN := [(8, (0, 6)), (7, (4, 2)), (0, (4, 0)), (1, (1, 1)), (3, (1, 1)), (5, (1, x2))]) (stN := [(4, 3)]) (hsC := [(4, [(4, (-1)), (1, 0)], []), (101, [], [x2, 0, 0, 0, 0, 0])]) (hsD := [(4, [(4, 1), (1, 1)], []), (101, [], [x2, 0, 0, 0, 0, 0])]) (v := (9, 0)) (st2 := [(4, 3)]) (hs2 := [(4, [(4, 1), (1, 1)], []), (101, [], [0, 0, 0, 0, 0, 0]), (101, [], [x2, 0, 0, 0, 0, 0]), (4, [(4, 2), (1, 1)], [])]) (jA_9_544 (d := 0) (by omega)) (by rfl) (by rfl) (by rfl) (by rfl) ⟨rfl, rfl, trivial⟩ (by rfl) (by rfl) (by omega) (by show 2 ≤ 4; omega) (by omega) (by omega) rfl rfl ?_
  exact jT_ret rfl (by decide) (by show 2 ≤ 4; decide) (by omega) (by omega) ⟨rfl, rfl, rfl⟩
theorem jI_16_0 : jmI (jm 16) 0 = (.lconst 0, 1) := by rfl
theorem jI_16_1 : jmI (jm 16) 1 = (.lstore_n 1, 1) := by rfl
theorem jI_16_2 : jmI (jm 16) 2 = (.iconst 0, 1) := by rfl
theorem jI_16_3 : jmI (jm 16) 3 = (.istore_n 3, 1) := by rfl
theorem jI_16_4 : jmI (jm 16) 4 = (.iload_n 3, 1) := by rfl
theorem jI_16_5 : jmI (jm 16) 5 = (.bipush 6, 2) := by rfl
theorem jI_16_7 : jmI (jm 16) 7 = (.if_icmp .ge 23, 3) := by rfl
theorem jI_16_10 : jmI (jm 16) 10 = (.lload_n 1, 1) := by rfl
theorem jI_16_11 : jmI (jm 16) 11 = (.aload_n 0, 1) := by rfl
theorem jI_16_12 : jmI (jm 16) 12 = (.getfield 9, 3) := by rfl
theorem jI_16_15 : jmI (jm 16) 15 = (.iload_n 3, 1) := by rfl
theorem jI_16_16 : jmI (jm 16) 16 = (.laload, 1) := by rfl
theorem jI_16_23 : jmI (jm 16) 23 = (.lstore_n 1, 1) := by rfl
theorem jI_16_24 : jmI (jm 16) 24 = (.iinc 3 1, 3) := by rfl
theorem jI_16_27 : jmI (jm 16) 27 = (.goto (-23), 3) := by rfl
theorem jI_16_30 : jmI (jm 16) 30 = (.lload_n 1, 1) := by rfl
theorem jA_16_546 {xs : List Int} {d : Nat} {x2 : Int} (h_x2 : (-200) ≤ x2 ∧ x2 ≤ (-1)) : jT xs d 16 2 0 [(0, (4, 0))] [] [(4, [(4, 1), (1, 1)], []), (101, [], [x2, 0, 0, 0, 0, 0])] 0 0 (fun k v hsN => k = 0 ∧ v = (1, -x2) ∧ hsN = [(4, [(4, 1), (1, 1)], []), (101, [], [x2, 0, 0, 0, 0, 0])] ++ []) := by
  refine jT_xlconst (z := 0) (pcN := 1) jI_16_0 rfl rfl ?_
  refine jT_xlstore_n (v := (1, 0)) (LN := [(1, (1, 0)), (0, (4, 0))]) (pcN := 2) jI_16_1 rfl rfl rfl rfl ?_
  refine jT_xiconst (k := 0) (pcN := 3) jI_16_2 rfl ?_
  refine jT_xistore_n (v := (0, 0)) (LN := [(3, (0, 0)), (1, (1, 0)), (0, (4, 0))]) (pcN := 4) jI_16_3 rfl rfl rfl rfl ?_
  refine jT_xiload_n (v := (0, 0)) (pcN := 5) jI_16_4 rfl rfl rfl ?_
  refine jT_xbipush (k := 6) (pcN := 7) jI_16_5 (by decide) rfl ?_
  refine jT_xicF (t := 30) (pcN := 10) jI_16_7 rfl (by decide +kernel) rfl rfl ?_
  refine jT_xlload_n (v := (1, 0)) (pcN := 11) jI_16_10 rfl rfl rfl ?_
  refine jT_xaload_n (v := (4, 0)) (pcN := 12) jI_16_11 rfl rfl rfl ?_
  refine jT_xgetf (a := 0) (t := 1) (ci := 4) (fi := 0) (c := (4, [(4, 1), (1, 1)], [])) (v := (4, 1)) (pcN := 15) jI_16_12 rfl rfl rfl rfl rfl rfl rfl ?_
  refine jT_xiload_n (v := (0, 0)) (pcN := 16) jI_16_15 rfl rfl rfl ?_
  refine jT_lald (x := x2) (a := 1) (j := 0) (fs := []) (X := [x2, 0, 0, 0, 0, 0]) jI_16_16 rfl rfl rfl rfl ?_
  refine jT_eq (LN := [(3, (0, 0)), (1, (1, 0)), (0, (4, 0))]) (stN := [(1, x2), (1, 0)]) (hsN := [(4, [(4, 1), (1, 1)], []), (101, [], [x2, 0, 0, 0, 0, 0])]) rfl rfl rfl ?_
  refine jT_labs (z := -x2) (by rfl) (by rfl) (by rfl) (by rfl) (by rw [show jwl (x2) = x2 from jwl_idd (by omega) (by omega), decide_eq_true (by omega)]; first | rfl | (show (_ : Int) = _; simp only [cond_true, cond_false]; omega)) ?_
  refine jT_mm3 (x := 0) (y := -x2) (z := -x2) (by rfl) (by rfl) (by rfl) (by rfl) (jwl_idd (by omega) (by omega)) (jwl_idd (by omega) (by omega)) (by rw [decide_eq_false (show ¬ ((-x2 : Int) < 0) by omega)]; rfl) ?_
  refine jT_xlstore_n (v := (1, -x2)) (LN := [(1, (1, -x2)), (3, (0, 0)), (0, (4, 0))]) (pcN := 24) jI_16_23 rfl rfl rfl rfl ?_
  refine jT_xiinc (x := 0) (z := 1) (LN := [(3, (0, 1)), (1, (1, -x2)), (0, (4, 0))]) (pcN := 27) jI_16_24 rfl rfl (by decide) rfl rfl ?_
  refine jT_xgoto (pcN := 4) jI_16_27 rfl ?_
  refine jT_xiload_n (v := (0, 1)) (pcN := 5) jI_16_4 rfl rfl rfl ?_
  refine jT_xbipush (k := 6) (pcN := 7) jI_16_5 (by decide) rfl ?_
  refine jT_xicF (t := 30) (pcN := 10) jI_16_7 rfl (by decide +kernel) rfl rfl ?_
  refine jT_xlload_n (v := (1, -x2)) (pcN := 11) jI_16_10 rfl rfl rfl ?_
  refine jT_xaload_n (v := (4, 0)) (pcN := 12) jI_16_11 rfl rfl rfl ?_
  refine jT_xgetf (a := 0) (t := 1) (ci := 4) (fi := 0) (c := (4, [(4, 1), (1, 1)], [])) (v := (4, 1)) (pcN := 15) jI_16_12 rfl rfl rfl rfl rfl rfl rfl ?_
  refine jT_xiload_n (v := (0, 1)) (pcN := 16) jI_16_15 rfl rfl rfl ?_
  refine jT_lald (x := 0) (a := 1) (j := 1) (fs := []) (X := [x2, 0, 0, 0, 0, 0]) jI_16_16 rfl rfl rfl rfl ?_
  refine jT_eq (LN := [(3, (0, 1)), (1, (1, -x2)), (0, (4, 0))]) (stN := [(1, 0), (1, -x2)]) (hsN := [(4, [(4, 1), (1, 1)], []), (101, [], [x2, 0, 0, 0, 0, 0])]) rfl rfl rfl ?_
  refine jT_labs (z := 0) (by rfl) (by rfl) (by rfl) (by rfl) (by decide +kernel) ?_
  refine jT_mm3 (x := -x2) (y := 0) (z := -x2) (by rfl) (by rfl) (by rfl) (by rfl) (jwl_idd (by omega) (by omega)) (jwl_idd (by omega) (by omega)) (by rw [decide_eq_true (show (0 : Int) < -x2 by omega)]; rfl) ?_
  refine jT_xlstore_n (v := (1, -x2)) (LN := [(1, (1, -x2)), (3, (0, 1)), (0, (4, 0))]) (pcN := 24) jI_16_23 rfl rfl rfl rfl ?_
  refine jT_xiinc (x := 1) (z := 2) (LN := [(3, (0, 2)), (1, (1, -x2)), (0, (4, 0))]) (pcN := 27) jI_16_24 rfl rfl (by decide) rfl rfl ?_
  refine jT_xgoto (pcN := 4) jI_16_27 rfl ?_
  refine jT_xiload_n (v := (0, 2)) (pcN := 5) jI_16_4 rfl rfl rfl ?_
  refine jT_xbipush (k := 6) (pcN := 7) jI_16_5 (by decide) rfl ?_
  refine jT_xicF (t := 30) (pcN := 10) jI_16_7 rfl (by decide +kernel) rfl rfl ?_
  refine jT_xlload_n (v := (1, -x2)) (pcN := 11) jI_16_10 rfl rfl rfl ?_
  refine jT_xaload_n (v := (4, 0)) (pcN := 12) jI_16_11 rfl rfl rfl ?_
  refine jT_xgetf (a := 0) (t := 1) (ci := 4) (fi := 0) (c := (4, [(4, 1), (1, 1)], [])) (v := (4, 1)) (pcN := 15) jI_16_12 rfl rfl rfl rfl rfl rfl rfl ?_
  refine jT_xiload_n (v := (0, 2)) (pcN := 16) jI_16_15 rfl rfl rfl ?_
  refine jT_lald (x := 0) (a := 1) (j := 2) (fs := []) (X := [x2, 0, 0, 0, 0, 0]) jI_16_16 rfl rfl rfl rfl ?_
  refine jT_eq (LN := [(3, (0, 2)), (1, (1, -x2)), (0, (4, 0))]) (stN := [(1, 0), (1, -x2)]) (hsN := [(4, [(4, 1), (1, 1)], []), (101, [], [x2, 0, 0, 0, 0, 0])]) rfl rfl rfl ?_
  refine jT_labs (z := 0) (by rfl) (by rfl) (by rfl) (by rfl) (by decide +kernel) ?_
  refine jT_mm3 (x := -x2) (y := 0) (z := -x2) (by rfl) (by rfl) (by rfl) (by rfl) (jwl_idd (by omega) (by omega)) (jwl_idd (by omega) (by omega)) (by rw [decide_eq_true (show (0 : Int) < -x2 by omega)]; rfl) ?_
  refine jT_xlstore_n (v := (1, -x2)) (LN := [(1, (1, -x2)), (3, (0, 2)), (0, (4, 0))]) (pcN := 24) jI_16_23 rfl rfl rfl rfl ?_
  refine jT_xiinc (x := 2) (z := 3) (LN := [(3, (0, 3)), (1, (1, -x2)), (0, (4, 0))]) (pcN := 27) jI_16_24 rfl rfl (by decide) rfl rfl ?_
  refine jT_xgoto (pcN := 4) jI_16_27 rfl ?_
  refine jT_xiload_n (v := (0, 3)) (pcN := 5) jI_16_4 rfl rfl rfl ?_
  refine jT_xbipush (k := 6) (pcN := 7) jI_16_5 (by decide) rfl ?_
  refine jT_xicF (t := 30) (pcN := 10) jI_16_7 rfl (by decide +kernel) rfl rfl ?_
  refine jT_xlload_n (v := (1, -x2)) (pcN := 11) jI_16_10 rfl rfl rfl ?_
  refine jT_xaload_n (v := (4, 0)) (pcN := 12) jI_16_11 rfl rfl rfl ?_
  refine jT_xgetf (a := 0) (t := 1) (ci := 4) (fi := 0) (c := (4, [(4, 1), (1, 1)], [])) (v := (4, 1)) (pcN := 15) jI_16_12 rfl rfl rfl rfl rfl rfl rfl ?_
  refine jT_xiload_n (v := (0, 3)) (pcN := 16) jI_16_15 rfl rfl rfl ?_
  refine jT_lald (x := 0) (a := 1) (j := 3) (fs := []) (X := [x2, 0, 0, 0, 0, 0]) jI_16_16 rfl rfl rfl rfl ?_
  refine jT_eq (LN := [(3, (0, 3)), (1, (1, -x2)), (0, (4, 0))]) (stN := [(1, 0), (1, -x2)]) (hsN := [(4, [(4, 1), (1, 1)], []), (101, [], [x2, 0, 0, 0, 0, 0])]) rfl rfl rfl ?_
  refine jT_labs (z := 0) (by rfl) (by rfl) (by rfl) (by rfl) (by decide +kernel) ?_
  refine jT_mm3 (x := -x2) (y := 0) (z := -x2) (by rfl) (by rfl) (by rfl) (by rfl) (jwl_idd (by omega) (by omega)) (jwl_idd (by omega) (by omega)) (by rw [decide_eq_true (show (0 : Int) < -x2 by omega)]; rfl) ?_
  refine jT_xlstore_n (v := (1, -x2)) (LN := [(1, (1, -x2)), (3, (0, 3)), (0, (4, 0))]) (pcN := 24) jI_16_23 rfl rfl rfl rfl ?_
  refine jT_xiinc (x := 3) (z := 4) (LN := [(3, (0, 4)), (1, (1, -x2)), (0, (4, 0))]) (pcN := 27) jI_16_24 rfl rfl (by decide) rfl rfl ?_
  refine jT_xgoto (pcN := 4) jI_16_27 rfl ?_
  refine jT_xiload_n (v := (0, 4)) (pcN := 5) jI_16_4 rfl rfl rfl ?_
  refine jT_xbipush (k := 6) (pcN := 7) jI_16_5 (by decide) rfl ?_
  refine jT_xicF (t := 30) (pcN := 10) jI_16_7 rfl (by decide +kernel) rfl rfl ?_
  refine jT_xlload_n (v := (1, -x2)) (pcN := 11) jI_16_10 rfl rfl rfl ?_
  refine jT_xaload_n (v := (4, 0)) (pcN := 12) jI_16_11 rfl rfl rfl ?_
  refine jT_xgetf (a := 0) (t := 1) (ci := 4) (fi := 0) (c := (4, [(4, 1), (1, 1)], [])) (v := (4, 1)) (pcN := 15) jI_16_12 rfl rfl rfl rfl rfl rfl rfl ?_
  refine jT_xiload_n (v := (0, 4)) (pcN := 16) jI_16_15 rfl rfl rfl ?_
  refine jT_lald (x := 0) (a := 1) (j := 4) (fs := []) (X := [x2, 0, 0, 0, 0, 0]) jI_16_16 rfl rfl rfl rfl ?_
  refine jT_eq (LN := [(3, (0, 4)), (1, (1, -x2)), (0, (4, 0))]) (stN := [(1, 0), (1, -x2)]) (hsN := [(4, [(4, 1), (1, 1)], []), (101, [], [x2, 0, 0, 0, 0, 0])]) rfl rfl rfl ?_
  refine jT_labs (z := 0) (by rfl) (by rfl) (by rfl) (by rfl) (by decide +kernel) ?_
  refine jT_mm3 (x := -x2) (y := 0) (z := -x2) (by rfl) (by rfl) (by rfl) (by rfl) (jwl_idd (by omega) (by omega)) (jwl_idd (by omega) (by omega)) (by rw [decide_eq_true (show (0 : Int) < -x2 by omega)]; rfl) ?_
  refine jT_xlstore_n (v := (1, -x2)) (LN := [(1, (1, -x2)), (3, (0, 4)), (0, (4, 0))]) (pcN := 24) jI_16_23 rfl rfl rfl rfl ?_
  refine jT_xiinc (x := 4) (z := 5) (LN := [(3, (0, 5)), (1, (1, -x2)), (0, (4, 0))]) (pcN := 27) jI_16_24 rfl rfl (by decide) rfl rfl ?_
  refine jT_xgoto (pcN := 4) jI_16_27 rfl ?_
  refine jT_xiload_n (v := (0, 5)) (pcN := 5) jI_16_4 rfl rfl rfl ?_
  refine jT_xbipush (k := 6) (pcN := 7) jI_16_5 (by decide) rfl ?_
  refine jT_xicF (t := 30) (pcN := 10) jI_16_7 rfl (by decide +kernel) rfl rfl ?_
  refine jT_xlload_n (v := (1, -x2)) (pcN := 11) jI_16_10 rfl rfl rfl ?_
  refine jT_xaload_n (v := (4, 0)) (pcN := 12) jI_16_11 rfl rfl rfl ?_
  refine jT_xgetf (a := 0) (t := 1) (ci := 4) (fi := 0) (c := (4, [(4, 1), (1, 1)], [])) (v := (4, 1)) (pcN := 15) jI_16_12 rfl rfl rfl rfl rfl rfl rfl ?_
  refine jT_xiload_n (v := (0, 5)) (pcN := 16) jI_16_15 rfl rfl rfl ?_
  refine jT_lald (x := 0) (a := 1) (j := 5) (fs := []) (X := [x2, 0, 0, 0, 0, 0]) jI_16_16 rfl rfl rfl rfl ?_
  refine jT_eq (LN := [(3, (0, 5)), (1, (1, -x2)), (0, (4, 0))]) (stN := [(1, 0), (1, -x2)]) (hsN := [(4, [(4, 1), (1, 1)], []), (101, [], [x2, 0, 0, 0, 0, 0])]) rfl rfl rfl ?_
  refine jT_labs (z := 0) (by rfl) (by rfl) (by rfl) (by rfl) (by decide +kernel) ?_
  refine jT_mm3 (x := -x2) (y := 0) (z := -x2) (by rfl) (by rfl) (by rfl) (by rfl) (jwl_idd (by omega) (by omega)) (jwl_idd (by omega) (by omega)) (by rw [decide_eq_true (show (0 : Int) < -x2 by omega)]; rfl) ?_
  refine jT_xlstore_n (v := (1, -x2)) (LN := [(1, (1, -x2)), (3, (0, 5)), (0, (4, 0))]) (pcN := 24) jI_16_23 rfl rfl rfl rfl ?_
  refine jT_xiinc (x := 5) (z := 6) (LN := [(3, (0, 6)), (1, (1, -x2)), (0, (4, 0))]) (pcN := 27) jI_16_24 rfl rfl (by decide) rfl rfl ?_
  refine jT_xgoto (pcN := 4) jI_16_27 rfl ?_
  refine jT_xiload_n (v := (0, 6)) (pcN := 5) jI_16_4 rfl rfl rfl ?_
  refine jT_xbipush (k := 6) (pcN := 7) jI_16_5 (by decide) rfl ?_
  refine jT_xicT (pcN := 30) jI_16_7 rfl (by decide +kernel) rfl ?_
  refine jT_xlload_n (v := (1, -x2)) (pcN := 31) jI_16_30 rfl rfl rfl ?_
  exact jT_ret rfl (by decide) (by show 2 ≤ 2; decide) (by omega) (by omega) ⟨rfl, rfl, rfl⟩
theorem jI_15_0 : jmI (jm 15) 0 = (.aload_n 0, 1) := by rfl
theorem jI_15_1 : jmI (jm 15) 1 = (.getfield 19, 3) := by rfl
theorem jI_15_8 : jmI (jm 15) 8 = (.ifCond .gt 18, 3) := by rfl
theorem jI_15_11 : jmI (jm 15) 11 = (.aload_n 0, 1) := by rfl
theorem jI_15_19 : jmI (jm 15) 19 = (.ifCond .gt 7, 3) := by rfl
theorem jI_15_22 : jmI (jm 15) 22 = (.iconst 1, 1) := by rfl
theorem jI_15_23 : jmI (jm 15) 23 = (.goto 4, 3) := by rfl
theorem jA_15_547 {xs : List Int} {d : Nat} {x2 : Int} (h_x2 : (-200) ≤ x2 ∧ x2 ≤ (-1)) : jT xs (d + 1) 15 2 0 [(0, (4, 0))] [] [(4, [(4, 1), (1, 1)], []), (101, [], [x2, 0, 0, 0, 0, 0])] 0 0 (fun k v hsN => k = 0 ∧ v = (0, 1) ∧ hsN = [(4, [(4, 1), (1, 1)], []), (101, [], [x2, 0, 0, 0, 0, 0])] ++ []) := by
  refine jT_xaload_n (v := (4, 0)) (pcN := 1) jI_15_0 rfl rfl rfl ?_
  refine jT_xgetf (a := 0) (t := 1) (ci := 4) (fi := 1) (c := (4, [(4, 1), (1, 1)], [])) (v := (1, 1)) (pcN := 4) jI_15_1 rfl rfl rfl rfl rfl rfl rfl ?_
  refine jT_adv 1 (pcN := 7) (LN := [(0, (4, 0))]) (stN := [(1, 360), (1, 1)]) (hsN := [(4, [(4, 1), (1, 1)], []), (101, [], [x2, 0, 0, 0, 0, 0])]) (c1 := 0) (s1 := 0) (c2 := 0) (s2 := 0) (by exact rfl) ?_ (by omega) (by omega)
  refine jT_lcmp (a := 1) (b := 360) (z := (-1)) (by rfl) (by rfl) (by decide +kernel) (by decide +kernel) (by decide) ?_
  refine jT_xifF (t := 26) (pcN := 11) jI_15_8 rfl (by decide +kernel) rfl rfl ?_
  refine jT_xaload_n (v := (4, 0)) (pcN := 12) jI_15_11 rfl rfl rfl ?_
  refine jT_callA [0, 1] (y := 16) (pcN := 15) (dC := 0) (bc1 := 0) (bc2 := 0) (c1 := 0) (c2 := 0) (as := [(4, 0)]) (asC := [(4, 0)]) (LN := [(0, (4, 0))]) (stN := []) (hsC := [(4, [(4, 1), (1, 1)], []), (101, [], [x2, 0, 0, 0, 0, 0])]) (ex := []) (v := (1, -x2)) (st2 := [(1, -x2)]) (hs2 := [(4, [(4, 1), (1, 1)], []), (101, [], [x2, 0, 0, 0, 0, 0])]) (jA_16_546 (d := 0) (by omega)) (by rfl) (by rfl) (by rfl) (by rfl) ⟨rfl, rfl, trivial⟩ (by rfl) (by rfl) (by omega) (by show 2 ≤ 2; omega) (by omega) (by omega) rfl rfl ?_
  refine jT_adv 1 (pcN := 18) (LN := [(0, (4, 0))]) (stN := [(1, 5000), (1, -x2)]) (hsN := [(4, [(4, 1), (1, 1)], []), (101, [], [x2, 0, 0, 0, 0, 0])]) (c1 := 0) (s1 := 0) (c2 := 0) (s2 := 0) (by exact rfl) ?_ (by omega) (by omega)
  refine jT_lcmp (a := -x2) (b := 5000) (z := (-1)) (by rfl) (by rfl) (jwl_idd (by omega) (by omega)) (jwl_idd (by omega) (by omega)) (by rw [decide_eq_false (show ¬ ((5000 : Int) < -x2) by omega), decide_eq_false (show ¬ ((-x2 : Int) = 5000) by omega)]; rfl) ?_
  refine jT_xifF (t := 26) (pcN := 22) jI_15_19 rfl (by decide +kernel) rfl rfl ?_
  refine jT_xiconst (k := 1) (pcN := 23) jI_15_22 rfl ?_
  refine jT_xgoto (pcN := 27) jI_15_23 rfl ?_
  exact jT_ret rfl (by decide) (by show 2 ≤ 2; decide) (by omega) (by omega) ⟨rfl, rfl, rfl⟩
theorem jI_117_0 : jmI (jm 117) 0 = (.aload_n 1, 1) := by rfl
theorem jI_117_4 : jmI (jm 117) 4 = (.aload_n 1, 1) := by rfl
theorem jI_117_8 : jmI (jm 117) 8 = (.ifCond .ne 14, 3) := by rfl
theorem jA_117_548 {xs : List Int} {d : Nat} {x2 : Int} (h_x2 : (-200) ≤ x2 ∧ x2 ≤ (-1)) : jT xs (d + 2) 117 3 0 [(0, (4, 0)), (1, (4, 1))] [] [jgh, (4, [(4, 2), (1, 1)], []), (101, [], [x2, 0, 0, 0, 0, 0])] 0 0 (fun k v hsN => k = 0 ∧ v = (9, 0) ∧ hsN = [jgh, (4, [(4, 2), (1, 1)], []), (101, [], [x2, 0, 0, 0, 0, 0])] ++ []) := by
  refine jT_xaload_n (v := (4, 1)) (pcN := 1) jI_117_0 rfl rfl rfl ?_
  refine jT_adv 1 (pcN := 4) (LN := [(0, (4, 0)), (1, (4, 1))]) (stN := []) (hsN := [jgh, (4, [(4, 2), (1, 1)], []), (101, [], [x2, 0, 0, 0, 0, 0])]) (c1 := 0) (s1 := 0) (c2 := 0) (s2 := 0) (by exact rfl) ?_ (by omega) (by omega)
  refine jT_xaload_n (v := (4, 1)) (pcN := 5) jI_117_4 rfl rfl rfl ?_
  refine jT_callA [1, 2] (y := 15) (pcN := 8) (dC := 1) (bc1 := 0) (bc2 := 0) (c1 := 0) (c2 := 0) (as := [(4, 1)]) (asC := [(4, 0)]) (LN := [(0, (4, 0)), (1, (4, 1))]) (stN := []) (hsC := [(4, [(4, 1), (1, 1)], []), (101, [], [x2, 0, 0, 0, 0, 0])]) (ex := []) (v := (0, 1)) (st2 := [(0, 1)]) (hs2 := [jgh, (4, [(4, 2), (1, 1)], []), (101, [], [x2, 0, 0, 0, 0, 0])]) (jA_15_547 (d := 0) (by omega)) (by rfl) (by rfl) (by rfl) (by rfl) ⟨rfl, rfl, trivial⟩ (by rfl) (by rfl) (by omega) (by show 3 ≤ 3; omega) (by omega) (by omega) rfl rfl ?_
  refine jT_xifT (pcN := 22) jI_117_8 rfl (by decide +kernel) rfl ?_
  exact jT_ret rfl (by decide) (by show 3 ≤ 3; decide) (by omega) (by omega) ⟨rfl, rfl, rfl⟩
theorem jI_132_24 : jmI (jm 132) 24 = (.aload_n 0, 1) := by rfl
theorem jI_132_25 : jmI (jm 132) 25 = (.getfield 67, 3) := by rfl
theorem jI_132_28 : jmI (jm 132) 28 = (.iload_n 1, 1) := by rfl
theorem jI_132_32 : jmI (jm 132) 32 = (.astore 4, 2) := by rfl
theorem jI_132_34 : jmI (jm 132) 34 = (.iconst 1, 1) := by rfl
theorem jI_132_35 : jmI (jm 132) 35 = (.aload 4, 2) := by rfl
theorem jI_132_43 : jmI (jm 132) 43 = (.istore 5, 2) := by rfl
theorem jI_132_45 : jmI (jm 132) 45 = (.iload_n 2, 1) := by rfl
theorem jI_132_46 : jmI (jm 132) 46 = (.iload 5, 2) := by rfl
theorem jI_132_51 : jmI (jm 132) 51 = (.istore 6, 2) := by rfl
theorem jI_132_53 : jmI (jm 132) 53 = (.aload 4, 2) := by rfl
theorem jI_132_55 : jmI (jm 132) 55 = (.iload 6, 2) := by rfl
theorem jI_132_60 : jmI (jm 132) 60 = (.lconst 1, 1) := by rfl
theorem jI_132_61 : jmI (jm 132) 61 = (.lconst 1, 1) := by rfl
theorem jI_132_62 : jmI (jm 132) 62 = (.iload_n 2, 1) := by rfl
theorem jI_132_63 : jmI (jm 132) 63 = (.iload 5, 2) := by rfl
theorem jI_132_68 : jmI (jm 132) 68 = (.i2l, 1) := by rfl
theorem jI_132_72 : jmI (jm 132) 72 = (.astore 7, 2) := by rfl
theorem jI_132_74 : jmI (jm 132) 74 = (.aload_n 0, 1) := by rfl
theorem jI_132_75 : jmI (jm 132) 75 = (.aload 7, 2) := by rfl
theorem jI_132_80 : jmI (jm 132) 80 = (.aload_n 0, 1) := by rfl
theorem jI_132_81 : jmI (jm 132) 81 = (.aload_n 0, 1) := by rfl
theorem jI_132_82 : jmI (jm 132) 82 = (.getfield 67, 3) := by rfl
theorem jI_132_85 : jmI (jm 132) 85 = (.iload_n 3, 1) := by rfl
theorem jI_132_86 : jmI (jm 132) 86 = (.aload 7, 2) := by rfl
def jzA_2216 : JC := (9, [(4, 26), (4, 13), (4, 14), (4, 15), (4, 16)], [])
def jzA_2217 : JC := (13, [(4, 1), (4, 2), (4, 3), (4, 4), (4, 5), (4, 6), (4, 7), (4, 8), (4, 9), (4, 10), (0, 1), (4, 27), (0, 0)], [])
theorem jI_132_94 : jmI (jm 132) 94 = (.iload 6, 2) := by rfl
def jpA_2219 : List JC := [jzA_5, jgh, jgh, jgh, jgh, jgh, jgh, jgh, jgh, jgh, jzA_79, jzA_88, jzA_89, (117, [], [18, 19, 20, 21]), jgh, jgh, jgh, (4, [(4, 22), (1, 1)], []), (7, [(4, 23), (4, (-1)), (4, (-1))], []), jgh, jgh, jgh, (101, [], [0, 0, 0, 0, 0, 0]), (114, [], [17])]
theorem jA_132_549 {xs : List Int} {d : Nat} {x2 x3 : Int} (h_x2 : (-200) ≤ x2 ∧ x2 ≤ (-1)) (h_x3 : 0 ≤ x3 ∧ x3 ≤ 7) : jT xs (d + 3) 132 24 0 [(0, (4, 0)), (1, (0, 0)), (2, (0, x2)), (3, (0, x3))] [] jpA_2219 4 21 (fun k v hsN => k = 0 ∧ v = (0, 0) ∧ hsN = [jzA_2217, jgh, jgh, jgh, jgh, jgh, jgh, jgh, jgh, jgh, jzA_102, jzA_88, jzA_89, (117, [], [18, 19, 20, 21]), jgh, jgh, jgh, (4, [(4, 22), (1, 1)], []), (7, [(4, 23), (4, (-1)), (4, (-1))], []), jgh, jgh, jgh, (101, [], [0, 0, 0, 0, 0, 0]), (114, [], [17]), (101, [], [x2, 0, 0, 0, 0, 0]), (4, [(4, 24), (1, 1)], []), jgh, jzA_2216]) := by
  refine jT_xaload_n (v := (4, 0)) (pcN := 1) jI_132_0 rfl rfl rfl ?_
  refine jT_xiload_n (v := (0, 0)) (pcN := 2) jI_132_1 rfl rfl rfl ?_
  refine jT_xiconst (k := 4) (pcN := 3) jI_132_2 rfl ?_
  refine jT_fR [0] 24 (y := 115) (pcN := 6) (dC := 0) (bc1 := 0) (bc2 := 0) (c1 := 4) (c2 := 21) (as := [(4, 0), (0, 0), (0, 4)]) (asC := [(4, 0), (0, 0), (0, 4)]) (LN := [(0, (4, 0)), (1, (0, 0)), (2, (0, x2)), (3, (0, x3))]) (stN := []) (hsC := [jgh]) (v := (9, 0)) (st2 := []) (jA_115_321 (d := 0)) (by rfl) (by rfl) (by decide +kernel) (by rfl) (by rfl) (by omega) (by omega) (by omega) (by omega) rfl ?_
  refine jT_xaload_n (v := (4, 0)) (pcN := 7) jI_132_6 rfl rfl rfl ?_
  refine jT_xiload_n (v := (0, x3)) (pcN := 8) jI_132_7 rfl rfl rfl ?_
  refine jT_xbipush (k := 8) (pcN := 10) jI_132_8 (by decide) rfl ?_
  refine jT_fR [0] 24 (y := 115) (pcN := 13) (dC := 0) (bc1 := 0) (bc2 := 0) (c1 := 4) (c2 := 21) (as := [(4, 0), (0, x3), (0, 8)]) (asC := [(4, 0), (0, x3), (0, 8)]) (LN := [(0, (4, 0)), (1, (0, 0)), (2, (0, x2)), (3, (0, x3))]) (stN := []) (hsC := [jgh]) (v := (9, 0)) (st2 := []) (jA_115_23 (d := 0) (by omega)) (by rfl) (by rfl) (by decide +kernel) (by rfl) (by rfl) (by omega) (by omega) (by omega) (by omega) rfl ?_
  refine jT_xaload_n (v := (4, 0)) (pcN := 14) jI_132_13 rfl rfl rfl ?_
  refine jT_xiload_n (v := (0, x2)) (pcN := 15) jI_132_14 rfl rfl rfl ?_
  refine jT_xsipush (k := (-200)) (pcN := 18) jI_132_15 (by decide) rfl ?_
  refine jT_xsipush (k := 200) (pcN := 21) jI_132_18 (by decide) rfl ?_
  refine jT_fR [0] 24 (y := 116) (pcN := 24) (dC := 0) (bc1 := 0) (bc2 := 0) (c1 := 4) (c2 := 21) (as := [(4, 0), (0, x2), (0, (-200)), (0, 200)]) (asC := [(4, 0), (0, x2), (0, (-200)), (0, 200)]) (LN := [(0, (4, 0)), (1, (0, 0)), (2, (0, x2)), (3, (0, x3))]) (stN := []) (hsC := [jgh]) (v := (9, 0)) (st2 := []) (jA_116_542 (d := 0) (by omega)) (by rfl) (by rfl) (by decide +kernel) (by rfl) (by rfl) (by omega) (by omega) (by omega) (by omega) rfl ?_
  refine jT_xaload_n (v := (4, 0)) (pcN := 25) jI_132_24 rfl rfl rfl ?_
  refine jT_xgetf (a := 0) (t := 1) (ci := 13) (fi := 11) (c := jzA_5) (v := (4, 11)) (pcN := 28) jI_132_25 rfl rfl rfl rfl rfl rfl rfl ?_
  refine jT_xiload_n (v := (0, 0)) (pcN := 29) jI_132_28 rfl rfl rfl ?_
  refine jT_fR [11, 12, 13, 14, 15, 16, 18, 19, 20, 21] 24 (y := 56) (pcN := 32) (dC := 0) (bc1 := 0) (bc2 := 0) (c1 := 4) (c2 := 21) (as := [(4, 11), (0, 0)]) (asC := [(4, 0), (0, 0)]) (LN := [(0, (4, 0)), (1, (0, 0)), (2, (0, x2)), (3, (0, x3))]) (stN := []) (hsC := jpA_1446) (v := (4, 6)) (st2 := [(4, 18)]) (jA_56_322 (d := 0)) (by rfl) (by rfl) (by decide +kernel) (by rfl) (by rfl) (by omega) (by omega) (by omega) (by omega) rfl ?_
  refine jT_xastore (v := (4, 18)) (LN := [(4, (4, 18)), (0, (4, 0)), (1, (0, 0)), (2, (0, x2)), (3, (0, x3))]) (pcN := 34) jI_132_32 rfl rfl rfl rfl ?_
  refine jT_xiconst (k := 1) (pcN := 35) jI_132_34 rfl ?_
  refine jT_xaload (v := (4, 18)) (pcN := 37) jI_132_35 rfl rfl rfl ?_
  refine jT_fR [18, 23, 17] 24 (y := 29) (pcN := 40) (dC := 0) (bc1 := 0) (bc2 := 0) (c1 := 4) (c2 := 21) (as := [(4, 18)]) (asC := [(4, 0)]) (LN := [(4, (4, 18)), (0, (4, 0)), (1, (0, 0)), (2, (0, x2)), (3, (0, x3))]) (stN := [(0, 1)]) (hsC := [(7, [(4, 1), (4, (-1)), (4, (-1))], []), (114, [], [2]), jgh]) (v := (0, 1)) (st2 := [(0, 1), (0, 1)]) (jA_29_416 (d := 0)) (by rfl) (by rfl) (by decide +kernel) (by rfl) (by rfl) (by omega) (by omega) (by omega) (by omega) rfl ?_
  refine jT_mm0 (x := 1) (y := 1) (z := 1) (by rfl) (by rfl) (by rfl) (by rfl) (jw_idd (by omega) (by omega)) (jw_idd (by omega) (by omega)) (by rw [decide_eq_false (show ¬ ((1 : Int) < 1) by omega)]; rfl) ?_
  refine jT_xistore (v := (0, 1)) (LN := [(5, (0, 1)), (4, (4, 18)), (0, (4, 0)), (1, (0, 0)), (2, (0, x2)), (3, (0, x3))]) (pcN := 45) jI_132_43 rfl rfl rfl rfl ?_
  refine jT_xiload_n (v := (0, x2)) (pcN := 46) jI_132_45 rfl rfl rfl ?_
  refine jT_xiload (v := (0, 1)) (pcN := 48) jI_132_46 rfl rfl rfl ?_
  refine jT_fR [] 24 (y := 375) (pcN := 51) (dC := 0) (bc1 := 0) (bc2 := 0) (c1 := 4) (c2 := 21) (as := [(0, x2), (0, 1)]) (asC := [(0, x2), (0, 1)]) (LN := [(5, (0, 1)), (4, (4, 18)), (0, (4, 0)), (1, (0, 0)), (2, (0, x2)), (3, (0, x3))]) (stN := []) (hsC := []) (v := (0, x2 % 1)) (st2 := [(0, x2 % 1)]) (jT_fmI1 (d := 0) (x := x2) (by omega)) (by rfl) (by rfl) (by decide +kernel) (by rfl) (by rfl) (by omega) (by omega) (by omega) (by omega) rfl ?_
  refine jT_eq (LN := [(5, (0, 1)), (4, (4, 18)), (0, (4, 0)), (1, (0, 0)), (2, (0, x2)), (3, (0, x3))]) (stN := [(0, 0)]) (hsN := [jzA_5, jgh, jgh, jgh, jgh, jgh, jgh, jgh, jgh, jgh, jzA_79, jzA_88, jzA_89, (117, [], [18, 19, 20, 21]), jgh, jgh, jgh, (4, [(4, 22), (1, 1)], []), (7, [(4, 23), (4, (-1)), (4, (-1))], []), jgh, jgh, jgh, (101, [], [0, 0, 0, 0, 0, 0]), (114, [], [17])]) (rfl) (by simp only [List.cons.injEq, Prod.mk.injEq, and_true, true_and] <;> ((try unfold jw); (try unfold jwl); omega)) (rfl) ?_
  refine jT_xistore (v := (0, 0)) (LN := [(6, (0, 0)), (5, (0, 1)), (4, (4, 18)), (0, (4, 0)), (1, (0, 0)), (2, (0, x2)), (3, (0, x3))]) (pcN := 53) jI_132_51 rfl rfl rfl rfl ?_
  refine jT_xaload (v := (4, 18)) (pcN := 55) jI_132_53 rfl rfl rfl ?_
  refine jT_xiload (v := (0, 0)) (pcN := 57) jI_132_55 rfl rfl rfl ?_
  refine jT_fR [18, 23, 17] 24 (y := 30) (pcN := 60) (dC := 0) (bc1 := 0) (bc2 := 0) (c1 := 4) (c2 := 21) (as := [(4, 18), (0, 0)]) (asC := [(4, 0), (0, 0)]) (LN := [(6, (0, 0)), (5, (0, 1)), (4, (4, 18)), (0, (4, 0)), (1, (0, 0)), (2, (0, x2)), (3, (0, x3))]) (stN := []) (hsC := [(7, [(4, 1), (4, (-1)), (4, (-1))], []), (114, [], [2]), jgh]) (v := (4, 2)) (st2 := [(4, 17)]) (jA_30_538 (d := 0)) (by rfl) (by rfl) (by decide +kernel) (by rfl) (by rfl) (by omega) (by omega) (by omega) (by omega) rfl ?_
  refine jT_xlconst (z := 1) (pcN := 61) jI_132_60 rfl rfl ?_
  refine jT_xlconst (z := 1) (pcN := 62) jI_132_61 rfl rfl ?_
  refine jT_xiload_n (v := (0, x2)) (pcN := 63) jI_132_62 rfl rfl rfl ?_
  refine jT_xiload (v := (0, 1)) (pcN := 65) jI_132_63 rfl rfl rfl ?_
  refine jT_fR [] 24 (y := 376) (pcN := 68) (dC := 0) (bc1 := 0) (bc2 := 0) (c1 := 4) (c2 := 21) (as := [(0, x2), (0, 1)]) (asC := [(0, x2), (0, 1)]) (LN := [(6, (0, 0)), (5, (0, 1)), (4, (4, 18)), (0, (4, 0)), (1, (0, 0)), (2, (0, x2)), (3, (0, x3))]) (stN := [(1, 1), (1, 1), (4, 17)]) (hsC := []) (v := (0, x2 / 1)) (st2 := [(0, x2 / 1), (1, 1), (1, 1), (4, 17)]) (jT_fdI1 (d := 0) (x := x2) (by omega)) (by rfl) (by rfl) (by decide +kernel) (by rfl) (by rfl) (by omega) (by omega) (by omega) (by omega) rfl ?_
  refine jT_eq (LN := [(6, (0, 0)), (5, (0, 1)), (4, (4, 18)), (0, (4, 0)), (1, (0, 0)), (2, (0, x2)), (3, (0, x3))]) (stN := [(0, x2), (1, 1), (1, 1), (4, 17)]) (hsN := [jzA_5, jgh, jgh, jgh, jgh, jgh, jgh, jgh, jgh, jgh, jzA_79, jzA_88, jzA_89, (117, [], [18, 19, 20, 21]), jgh, jgh, jgh, (4, [(4, 22), (1, 1)], []), (7, [(4, 23), (4, (-1)), (4, (-1))], []), jgh, jgh, jgh, (101, [], [0, 0, 0, 0, 0, 0]), (114, [], [17])]) (rfl) (by simp only [List.cons.injEq, Prod.mk.injEq, and_true, true_and] <;> ((try unfold jw); (try unfold jwl); omega)) (rfl) ?_
  refine jT_xi2l (x := x2) (z := x2) (pcN := 69) jI_132_68 rfl (jw_idd (by omega) (by omega)) rfl ?_
  refine jT_fA [17, 22] 24 (y := 10) (pcN := 72) (dC := 2) (bc1 := 2) (bc2 := 8) (c1 := 2) (c2 := 13) (as := [(4, 17), (1, 1), (1, 1), (1, x2)]) (asC := [(4, 0), (1, 1), (1, 1), (1, x2)]) (LN := [(6, (0, 0)), (5, (0, 1)), (4, (4, 18)), (0, (4, 0)), (1, (0, 0)), (2, (0, x2)), (3, (0, x3))]) (stN := []) (hsC := [(4, [(4, 1), (1, 1)], []), (101, [], [0, 0, 0, 0, 0, 0])]) (ex := [(101, [], [x2, 0, 0, 0, 0, 0]), (4, [(4, 2), (1, 1)], [])]) (v := (4, 3)) (st2 := [(4, 25)]) (hs2 := [jzA_5, jgh, jgh, jgh, jgh, jgh, jgh, jgh, jgh, jgh, jzA_79, jzA_88, jzA_89, (117, [], [18, 19, 20, 21]), jgh, jgh, jgh, (4, [(4, 22), (1, 1)], []), (7, [(4, 23), (4, (-1)), (4, (-1))], []), jgh, jgh, jgh, (101, [], [0, 0, 0, 0, 0, 0]), (114, [], [17]), (101, [], [x2, 0, 0, 0, 0, 0]), (4, [(4, 24), (1, 1)], [])]) (jA_10_545 (d := 0) (by omega)) (by rfl) (by rfl) (by decide +kernel) (by rfl) (by rfl) (by omega) (by omega) (by omega) (by omega) rfl rfl ?_
  refine jT_xastore (v := (4, 25)) (LN := [(7, (4, 25)), (6, (0, 0)), (5, (0, 1)), (4, (4, 18)), (0, (4, 0)), (1, (0, 0)), (2, (0, x2)), (3, (0, x3))]) (pcN := 74) jI_132_72 rfl rfl rfl rfl ?_
  refine jT_xaload_n (v := (4, 0)) (pcN := 75) jI_132_74 rfl rfl rfl ?_
  refine jT_xaload (v := (4, 25)) (pcN := 77) jI_132_75 rfl rfl rfl ?_
  refine jT_callA [0, 25, 24] (y := 117) (pcN := 80) (dC := 2) (bc1 := 0) (bc2 := 0) (c1 := 2) (c2 := 13) (as := [(4, 0), (4, 25)]) (asC := [(4, 0), (4, 1)]) (LN := [(7, (4, 25)), (6, (0, 0)), (5, (0, 1)), (4, (4, 18)), (0, (4, 0)), (1, (0, 0)), (2, (0, x2)), (3, (0, x3))]) (stN := []) (hsC := [jgh, (4, [(4, 2), (1, 1)], []), (101, [], [x2, 0, 0, 0, 0, 0])]) (ex := []) (v := (9, 0)) (st2 := []) (hs2 := [jzA_5, jgh, jgh, jgh, jgh, jgh, jgh, jgh, jgh, jgh, jzA_79, jzA_88, jzA_89, (117, [], [18, 19, 20, 21]), jgh, jgh, jgh, (4, [(4, 22), (1, 1)], []), (7, [(4, 23), (4, (-1)), (4, (-1))], []), jgh, jgh, jgh, (101, [], [0, 0, 0, 0, 0, 0]), (114, [], [17]), (101, [], [x2, 0, 0, 0, 0, 0]), (4, [(4, 24), (1, 1)], [])]) (jA_117_548 (d := 0) (by omega)) (by rfl) (by rfl) (by rfl) (by rfl) ⟨rfl, rfl, rfl, trivial⟩ (by rfl) (by rfl) (by omega) (by show 24 ≤ 26; omega) (by omega) (by omega) rfl rfl ?_
  refine jT_xaload_n (v := (4, 0)) (pcN := 81) jI_132_80 rfl rfl rfl ?_
  refine jT_xaload_n (v := (4, 0)) (pcN := 82) jI_132_81 rfl rfl rfl ?_
  refine jT_xgetf (a := 0) (t := 1) (ci := 13) (fi := 11) (c := jzA_5) (v := (4, 11)) (pcN := 85) jI_132_82 rfl rfl rfl rfl rfl rfl rfl ?_
  refine jT_xiload_n (v := (0, x3)) (pcN := 86) jI_132_85 rfl rfl rfl ?_
  refine jT_xaload (v := (4, 25)) (pcN := 88) jI_132_86 rfl rfl rfl ?_
  refine jT_callA [11, 25, 12, 13, 14, 15, 16, 24, 17] (y := 58) (pcN := 91) (dC := 1) (bc1 := 2) (bc2 := 13) (c1 := 0) (c2 := 0) (as := [(4, 11), (0, x3), (4, 25)]) (asC := [(4, 0), (0, x3), (4, 1)]) (LN := [(7, (4, 25)), (6, (0, 0)), (5, (0, 1)), (4, (4, 18)), (0, (4, 0)), (1, (0, 0)), (2, (0, x2)), (3, (0, x3))]) (stN := [(4, 0)]) (hsC := jpA_74) (ex := [jgh, jzA_72]) (v := (4, 10)) (st2 := [(4, 27), (4, 0)]) (hs2 := [jzA_5, jgh, jgh, jgh, jgh, jgh, jgh, jgh, jgh, jgh, jzA_79, jzA_88, jzA_89, (117, [], [18, 19, 20, 21]), jgh, jgh, jgh, (4, [(4, 22), (1, 1)], []), (7, [(4, 23), (4, (-1)), (4, (-1))], []), jgh, jgh, jgh, (101, [], [0, 0, 0, 0, 0, 0]), (114, [], [17]), (101, [], [x2, 0, 0, 0, 0, 0]), (4, [(4, 24), (1, 1)], []), jgh, jzA_2216]) (jA_58_181 (d := 0) (by omega)) (by rfl) (by rfl) (by rfl) (by rfl) ⟨rfl, rfl, rfl, rfl, rfl, rfl, rfl, rfl, rfl, trivial⟩ (by rfl) (by rfl) (by omega) (by show 24 ≤ 26; omega) (by omega) (by omega) rfl rfl ?_
  refine jT_callB [0, 27, 1, 2, 3, 4, 5, 6, 7, 8, 9, 10, 11, 12, 13, 14, 15, 16] (y := 100) (pcN := 94) (dC := 0) (bc1 := 0) (bc2 := 0) (c1 := 0) (c2 := 0) (as := [(4, 0), (4, 27)]) (asC := [(4, 0), (4, 1)]) (LN := [(7, (4, 25)), (6, (0, 0)), (5, (0, 1)), (4, (4, 18)), (0, (4, 0)), (1, (0, 0)), (2, (0, x2)), (3, (0, x3))]) (stN := []) (hsC := jpA_80) (hsD := jpA_78) (v := (9, 0)) (st2 := []) (hs2 := [jzA_2217, jgh, jgh, jgh, jgh, jgh, jgh, jgh, jgh, jgh, jzA_102, jzA_88, jzA_89, (117, [], [18, 19, 20, 21]), jgh, jgh, jgh, (4, [(4, 22), (1, 1)], []), (7, [(4, 23), (4, (-1)), (4, (-1))], []), jgh, jgh, jgh, (101, [], [0, 0, 0, 0, 0, 0]), (114, [], [17]), (101, [], [x2, 0, 0, 0, 0, 0]), (4, [(4, 24), (1, 1)], []), jgh, jzA_2216]) (jA_100_34 (d := 0)) (by rfl) (by rfl) (by rfl) (by rfl) ⟨rfl, rfl, rfl, rfl, rfl, rfl, rfl, rfl, rfl, rfl, rfl, rfl, rfl, rfl, rfl, rfl, rfl, rfl, trivial⟩ (by rfl) (by rfl) (by omega) (by show 24 ≤ 28; omega) (by omega) (by omega) rfl rfl ?_
  refine jT_xiload (v := (0, 0)) (pcN := 96) jI_132_94 rfl rfl rfl ?_
  exact jT_ret rfl (by decide) (by show 24 ≤ 28; decide) (by omega) (by omega) ⟨rfl, rfl, rfl⟩
def jzA_2220 : JC := (13, [(4, 2), (4, 3), (4, 4), (4, 5), (4, 6), (4, 7), (4, 8), (4, 9), (4, 10), (4, 11), (0, 1), (4, 28), (0, 0)], [])
def jzA_2221 : JC := (9, [(4, 27), (4, 14), (4, 15), (4, 16), (4, 17)], [])
theorem jI_339_10 : jmI (jm 339) 10 = (.i2l, 1) := by rfl
theorem jI_339_12 : jmI (jm 339) 12 = (.goto 15, 3) := by rfl
theorem jI_339_27 : jmI (jm 339) 27 = (.iconst 0, 1) := by rfl
def jpA_2225 : List JC := [jzA_14, (101, [], [0]), jgh, jgh, jgh, jgh, jgh, jgh, jgh, jgh, jgh, jzA_79, jzA_77, jzA_109, (117, [], [19, 20, 21, 22]), jgh, jgh, jgh, (4, [(4, 23), (1, 1)], []), (7, [(4, 24), (4, (-1)), (4, (-1))], []), jgh, jgh, jgh, (101, [], [0, 0, 0, 0, 0, 0]), (114, [], [18])]
theorem jA_339_550 {xs : List Int} {d : Nat} {x2 x3 : Int} (h_x2 : (-200) ≤ x2 ∧ x2 ≤ (-1)) (h_x3 : 0 ≤ x3 ∧ x3 ≤ 7) : jT xs (d + 4) 339 25 0 [(0, (4, 0)), (1, (0, 0)), (2, (0, x2)), (3, (0, x3)), (4, (4, 1))] [] jpA_2225 4 21 (fun k v hsN => k = 0 ∧ v = (0, 0) ∧ hsN = [jzA_2220, (101, [], [0]), jgh, jgh, jgh, jgh, jgh, jgh, jgh, jgh, jgh, jzA_76, jzA_77, jzA_109, (117, [], [19, 20, 21, 22]), jgh, jgh, jgh, (4, [(4, 23), (1, 1)], []), (7, [(4, 24), (4, (-1)), (4, (-1))], []), jgh, jgh, jgh, (101, [], [0, 0, 0, 0, 0, 0]), (114, [], [18]), (101, [], [x2, 0, 0, 0, 0, 0]), (4, [(4, 25), (1, 1)], []), jgh, jzA_2221]) := by
  refine jT_xaload (v := (4, 1)) (pcN := 2) jI_339_0 rfl rfl rfl ?_
  refine jT_xiconst (k := 0) (pcN := 3) jI_339_2 rfl ?_
  refine jT_xaload_n (v := (4, 0)) (pcN := 4) jI_339_3 rfl rfl rfl ?_
  refine jT_xiload_n (v := (0, 0)) (pcN := 5) jI_339_4 rfl rfl rfl ?_
  refine jT_xiload_n (v := (0, x2)) (pcN := 6) jI_339_5 rfl rfl rfl ?_
  refine jT_xiload_n (v := (0, x3)) (pcN := 7) jI_339_6 rfl rfl rfl ?_
  refine jT_fB [0, 2, 3, 4, 5, 6, 7, 8, 9, 10, 11, 12, 13, 14, 15, 16, 17, 18, 19, 20, 21, 22, 23, 24] 25 (y := 132) (pcN := 10) (dC := 3) (bc1 := 4) (bc2 := 21) (c1 := 0) (c2 := 0) (as := [(4, 0), (0, 0), (0, x2), (0, x3)]) (asC := [(4, 0), (0, 0), (0, x2), (0, x3)]) (LN := [(0, (4, 0)), (1, (0, 0)), (2, (0, x2)), (3, (0, x3)), (4, (4, 1))]) (stN := [(0, 0), (4, 1)]) (hsC := jpA_2219) (hsD := [jzA_2217, jgh, jgh, jgh, jgh, jgh, jgh, jgh, jgh, jgh, jzA_102, jzA_88, jzA_89, (117, [], [18, 19, 20, 21]), jgh, jgh, jgh, (4, [(4, 22), (1, 1)], []), (7, [(4, 23), (4, (-1)), (4, (-1))], []), jgh, jgh, jgh, (101, [], [0, 0, 0, 0, 0, 0]), (114, [], [17]), (101, [], [x2, 0, 0, 0, 0, 0]), (4, [(4, 24), (1, 1)], []), jgh, jzA_2216]) (v := (0, 0)) (st2 := [(0, 0), (0, 0), (4, 1)]) (hs2 := [jzA_2220, (101, [], [0]), jgh, jgh, jgh, jgh, jgh, jgh, jgh, jgh, jgh, jzA_76, jzA_77, jzA_109, (117, [], [19, 20, 21, 22]), jgh, jgh, jgh, (4, [(4, 23), (1, 1)], []), (7, [(4, 24), (4, (-1)), (4, (-1))], []), jgh, jgh, jgh, (101, [], [0, 0, 0, 0, 0, 0]), (114, [], [18]), (101, [], [x2, 0, 0, 0, 0, 0]), (4, [(4, 25), (1, 1)], []), jgh, jzA_2221]) (jA_132_549 (d := 0) (by omega) (by omega)) (by rfl) (by rfl) (by decide +kernel) (by rfl) (by rfl) (by omega) (by omega) (by omega) (by omega) rfl rfl ?_
  refine jT_xi2l (x := 0) (z := 0) (pcN := 11) jI_339_10 rfl (by decide +kernel) rfl ?_
  refine jT_adv 1 (pcN := 12) (LN := [(0, (4, 0)), (1, (0, 0)), (2, (0, x2)), (3, (0, x3)), (4, (4, 1))]) (stN := []) (hsN := [jzA_2220, (101, [], [0]), jgh, jgh, jgh, jgh, jgh, jgh, jgh, jgh, jgh, jzA_76, jzA_77, jzA_109, (117, [], [19, 20, 21, 22]), jgh, jgh, jgh, (4, [(4, 23), (1, 1)], []), (7, [(4, 24), (4, (-1)), (4, (-1))], []), jgh, jgh, jgh, (101, [], [0, 0, 0, 0, 0, 0]), (114, [], [18]), (101, [], [x2, 0, 0, 0, 0, 0]), (4, [(4, 25), (1, 1)], []), jgh, jzA_2221]) (c1 := 0) (s1 := 0) (c2 := 0) (s2 := 0) (by exact rfl) ?_ (by omega) (by omega)
  refine jT_xgoto (pcN := 27) jI_339_12 rfl ?_
  refine jT_xiconst (k := 0) (pcN := 28) jI_339_27 rfl ?_
  exact jT_ret rfl (by decide) (by show 25 ≤ 29; decide) (by omega) (by omega) ⟨rfl, rfl, rfl⟩
theorem jI_205_0 : jmI (jm 205) 0 = (.aload_n 0, 1) := by rfl
theorem jI_205_1 : jmI (jm 205) 1 = (.getfield 35, 3) := by rfl
theorem jI_205_8 : jmI (jm 205) 8 = (.ifCond .gt 7, 3) := by rfl
theorem jI_205_11 : jmI (jm 205) 11 = (.iconst 1, 1) := by rfl
theorem jI_205_12 : jmI (jm 205) 12 = (.goto 4, 3) := by rfl
theorem jI_205_16 : jmI (jm 205) 16 = (.istore_n 1, 1) := by rfl
theorem jI_205_17 : jmI (jm 205) 17 = (.iconst 0, 1) := by rfl
theorem jI_205_18 : jmI (jm 205) 18 = (.istore_n 2, 1) := by rfl
theorem jI_205_19 : jmI (jm 205) 19 = (.iload_n 2, 1) := by rfl
theorem jI_205_20 : jmI (jm 205) 20 = (.bipush 6, 2) := by rfl
theorem jI_205_22 : jmI (jm 205) 22 = (.if_icmp .ge 37, 3) := by rfl
theorem jI_205_25 : jmI (jm 205) 25 = (.iload_n 1, 1) := by rfl
theorem jI_205_26 : jmI (jm 205) 26 = (.ifCond .eq 25, 3) := by rfl
theorem jI_205_29 : jmI (jm 205) 29 = (.aload_n 0, 1) := by rfl
theorem jI_205_30 : jmI (jm 205) 30 = (.getfield 31, 3) := by rfl
theorem jI_205_33 : jmI (jm 205) 33 = (.iload_n 2, 1) := by rfl
theorem jI_205_34 : jmI (jm 205) 34 = (.laload, 1) := by rfl
theorem jI_205_44 : jmI (jm 205) 44 = (.ifCond .eq 7, 3) := by rfl
theorem jI_205_47 : jmI (jm 205) 47 = (.iconst 1, 1) := by rfl
theorem jI_205_48 : jmI (jm 205) 48 = (.goto 4, 3) := by rfl
theorem jI_205_52 : jmI (jm 205) 52 = (.istore_n 1, 1) := by rfl
theorem jI_205_53 : jmI (jm 205) 53 = (.iinc 2 1, 3) := by rfl
theorem jI_205_56 : jmI (jm 205) 56 = (.goto (-37), 3) := by rfl
theorem jI_205_59 : jmI (jm 205) 59 = (.iload_n 1, 1) := by rfl
theorem jA_205_551 {xs : List Int} {d : Nat} {x2 : Int} (h_x2 : (-200) ≤ x2 ∧ x2 ≤ (-1)) : jT xs (d + 1) 205 16 0 [(0, (4, 0))] [] [jzA_21, jgh, jgh, jgh, jgh, jgh, jgh, (101, [], [x2, 0, 0, 0, 0, 0]), jgh, jgh, jgh, jgh, jgh, jgh, jgh, jgh] 0 0 (fun k v hsN => k = 0 ∧ v = (0, 1) ∧ hsN = [jzA_21, jgh, jgh, jgh, jgh, jgh, jgh, (101, [], [x2, 0, 0, 0, 0, 0]), jgh, jgh, jgh, jgh, jgh, jgh, jgh, jgh] ++ []) := by
  refine jT_xaload_n (v := (4, 0)) (pcN := 1) jI_205_0 rfl rfl rfl ?_
  refine jT_xgetf (a := 0) (t := 1) (ci := 14) (fi := 10) (c := jzA_21) (v := (1, 1)) (pcN := 4) jI_205_1 rfl rfl rfl rfl rfl rfl rfl ?_
  refine jT_adv 1 (pcN := 7) (LN := [(0, (4, 0))]) (stN := [(1, 360), (1, 1)]) (hsN := [jzA_21, jgh, jgh, jgh, jgh, jgh, jgh, (101, [], [x2, 0, 0, 0, 0, 0]), jgh, jgh, jgh, jgh, jgh, jgh, jgh, jgh]) (c1 := 0) (s1 := 0) (c2 := 0) (s2 := 0) (by exact rfl) ?_ (by omega) (by omega)
  refine jT_lcmp (a := 1) (b := 360) (z := (-1)) (by rfl) (by rfl) (by decide +kernel) (by decide +kernel) (by decide) ?_
  refine jT_xifF (t := 15) (pcN := 11) jI_205_8 rfl (by decide +kernel) rfl rfl ?_
  refine jT_xiconst (k := 1) (pcN := 12) jI_205_11 rfl ?_
  refine jT_xgoto (pcN := 16) jI_205_12 rfl ?_
  refine jT_xistore_n (v := (0, 1)) (LN := [(1, (0, 1)), (0, (4, 0))]) (pcN := 17) jI_205_16 rfl rfl rfl rfl ?_
  refine jT_xiconst (k := 0) (pcN := 18) jI_205_17 rfl ?_
  refine jT_xistore_n (v := (0, 0)) (LN := [(2, (0, 0)), (1, (0, 1)), (0, (4, 0))]) (pcN := 19) jI_205_18 rfl rfl rfl rfl ?_
  refine jT_xiload_n (v := (0, 0)) (pcN := 20) jI_205_19 rfl rfl rfl ?_
  refine jT_xbipush (k := 6) (pcN := 22) jI_205_20 (by decide) rfl ?_
  refine jT_xicF (t := 59) (pcN := 25) jI_205_22 rfl (by decide +kernel) rfl rfl ?_
  refine jT_xiload_n (v := (0, 1)) (pcN := 26) jI_205_25 rfl rfl rfl ?_
  refine jT_xifF (t := 51) (pcN := 29) jI_205_26 rfl (by decide +kernel) rfl rfl ?_
  refine jT_xaload_n (v := (4, 0)) (pcN := 30) jI_205_29 rfl rfl rfl ?_
  refine jT_xgetf (a := 0) (t := 1) (ci := 14) (fi := 9) (c := jzA_21) (v := (4, 7)) (pcN := 33) jI_205_30 rfl rfl rfl rfl rfl rfl rfl ?_
  refine jT_xiload_n (v := (0, 0)) (pcN := 34) jI_205_33 rfl rfl rfl ?_
  refine jT_lald (x := x2) (a := 7) (j := 0) (fs := []) (X := [x2, 0, 0, 0, 0, 0]) jI_205_34 rfl rfl rfl rfl ?_
  refine jT_eq (LN := [(2, (0, 0)), (1, (0, 1)), (0, (4, 0))]) (stN := [(1, x2)]) (hsN := [jzA_21, jgh, jgh, jgh, jgh, jgh, jgh, (101, [], [x2, 0, 0, 0, 0, 0]), jgh, jgh, jgh, jgh, jgh, jgh, jgh, jgh]) rfl rfl rfl ?_
  refine jT_adv 2 (pcN := 41) (LN := [(2, (0, 0)), (1, (0, 1)), (0, (4, 0))]) (stN := [(1, 5000), (1, (-5000)), (1, x2)]) (hsN := [jzA_21, jgh, jgh, jgh, jgh, jgh, jgh, (101, [], [x2, 0, 0, 0, 0, 0]), jgh, jgh, jgh, jgh, jgh, jgh, jgh, jgh]) (c1 := 0) (s1 := 0) (c2 := 0) (s2 := 0) (by exact rfl) ?_ (by omega) (by omega)
  refine jT_callA [] (y := 189) (pcN := 44) (dC := 0) (bc1 := 0) (bc2 := 0) (c1 := 0) (c2 := 0) (as := [(1, x2), (1, (-5000)), (1, 5000)]) (asC := [(1, x2), (1, (-5000)), (1, 5000)]) (LN := [(2, (0, 0)), (1, (0, 1)), (0, (4, 0))]) (stN := []) (hsC := []) (ex := []) (v := (0, 1)) (st2 := [(0, 1)]) (hs2 := [jzA_21, jgh, jgh, jgh, jgh, jgh, jgh, (101, [], [x2, 0, 0, 0, 0, 0]), jgh, jgh, jgh, jgh, jgh, jgh, jgh, jgh]) (jT_in_ok (d := 0) (v := x2) (lo := (-5000)) (hi := 5000) (by omega) (by omega) (by omega) (by omega) (by omega)) (by rfl) (by rfl) (by rfl) (by rfl) trivial (by rfl) (by rfl) (by omega) (by show 16 ≤ 16; omega) (by omega) (by omega) rfl rfl ?_
  refine jT_xifF (t := 51) (pcN := 47) jI_205_44 rfl (by decide +kernel) rfl rfl ?_
  refine jT_xiconst (k := 1) (pcN := 48) jI_205_47 rfl ?_
  refine jT_xgoto (pcN := 52) jI_205_48 rfl ?_
  refine jT_xistore_n (v := (0, 1)) (LN := [(1, (0, 1)), (2, (0, 0)), (0, (4, 0))]) (pcN := 53) jI_205_52 rfl rfl rfl rfl ?_
  refine jT_xiinc (x := 0) (z := 1) (LN := [(2, (0, 1)), (1, (0, 1)), (0, (4, 0))]) (pcN := 56) jI_205_53 rfl rfl (by decide) rfl rfl ?_
  refine jT_xgoto (pcN := 19) jI_205_56 rfl ?_
  refine jT_xiload_n (v := (0, 1)) (pcN := 20) jI_205_19 rfl rfl rfl ?_
  refine jT_xbipush (k := 6) (pcN := 22) jI_205_20 (by decide) rfl ?_
  refine jT_xicF (t := 59) (pcN := 25) jI_205_22 rfl (by decide +kernel) rfl rfl ?_
  refine jT_xiload_n (v := (0, 1)) (pcN := 26) jI_205_25 rfl rfl rfl ?_
  refine jT_xifF (t := 51) (pcN := 29) jI_205_26 rfl (by decide +kernel) rfl rfl ?_
  refine jT_xaload_n (v := (4, 0)) (pcN := 30) jI_205_29 rfl rfl rfl ?_
  refine jT_xgetf (a := 0) (t := 1) (ci := 14) (fi := 9) (c := jzA_21) (v := (4, 7)) (pcN := 33) jI_205_30 rfl rfl rfl rfl rfl rfl rfl ?_
  refine jT_xiload_n (v := (0, 1)) (pcN := 34) jI_205_33 rfl rfl rfl ?_
  refine jT_lald (x := 0) (a := 7) (j := 1) (fs := []) (X := [x2, 0, 0, 0, 0, 0]) jI_205_34 rfl rfl rfl rfl ?_
  refine jT_eq (LN := [(2, (0, 1)), (1, (0, 1)), (0, (4, 0))]) (stN := [(1, 0)]) (hsN := [jzA_21, jgh, jgh, jgh, jgh, jgh, jgh, (101, [], [x2, 0, 0, 0, 0, 0]), jgh, jgh, jgh, jgh, jgh, jgh, jgh, jgh]) rfl rfl rfl ?_
  refine jT_adv 2 (pcN := 41) (LN := [(2, (0, 1)), (1, (0, 1)), (0, (4, 0))]) (stN := [(1, 5000), (1, (-5000)), (1, 0)]) (hsN := [jzA_21, jgh, jgh, jgh, jgh, jgh, jgh, (101, [], [x2, 0, 0, 0, 0, 0]), jgh, jgh, jgh, jgh, jgh, jgh, jgh, jgh]) (c1 := 0) (s1 := 0) (c2 := 0) (s2 := 0) (by exact rfl) ?_ (by omega) (by omega)
  refine jT_callA [] (y := 189) (pcN := 44) (dC := 0) (bc1 := 0) (bc2 := 0) (c1 := 0) (c2 := 0) (as := [(1, 0), (1, (-5000)), (1, 5000)]) (asC := [(1, 0), (1, (-5000)), (1, 5000)]) (LN := [(2, (0, 1)), (1, (0, 1)), (0, (4, 0))]) (stN := []) (hsC := []) (ex := []) (v := (0, 1)) (st2 := [(0, 1)]) (hs2 := [jzA_21, jgh, jgh, jgh, jgh, jgh, jgh, (101, [], [x2, 0, 0, 0, 0, 0]), jgh, jgh, jgh, jgh, jgh, jgh, jgh, jgh]) (jA_189_47 (d := 0)) (by rfl) (by rfl) (by rfl) (by rfl) trivial (by rfl) (by rfl) (by omega) (by show 16 ≤ 16; omega) (by omega) (by omega) rfl rfl ?_
  refine jT_xifF (t := 51) (pcN := 47) jI_205_44 rfl (by decide +kernel) rfl rfl ?_
  refine jT_xiconst (k := 1) (pcN := 48) jI_205_47 rfl ?_
  refine jT_xgoto (pcN := 52) jI_205_48 rfl ?_
  refine jT_xistore_n (v := (0, 1)) (LN := [(1, (0, 1)), (2, (0, 1)), (0, (4, 0))]) (pcN := 53) jI_205_52 rfl rfl rfl rfl ?_
  refine jT_xiinc (x := 1) (z := 2) (LN := [(2, (0, 2)), (1, (0, 1)), (0, (4, 0))]) (pcN := 56) jI_205_53 rfl rfl (by decide) rfl rfl ?_
  refine jT_xgoto (pcN := 19) jI_205_56 rfl ?_
  refine jT_xiload_n (v := (0, 2)) (pcN := 20) jI_205_19 rfl rfl rfl ?_
  refine jT_xbipush (k := 6) (pcN := 22) jI_205_20 (by decide) rfl ?_
  refine jT_xicF (t := 59) (pcN := 25) jI_205_22 rfl (by decide +kernel) rfl rfl ?_
  refine jT_xiload_n (v := (0, 1)) (pcN := 26) jI_205_25 rfl rfl rfl ?_
  refine jT_xifF (t := 51) (pcN := 29) jI_205_26 rfl (by decide +kernel) rfl rfl ?_
  refine jT_xaload_n (v := (4, 0)) (pcN := 30) jI_205_29 rfl rfl rfl ?_
  refine jT_xgetf (a := 0) (t := 1) (ci := 14) (fi := 9) (c := jzA_21) (v := (4, 7)) (pcN := 33) jI_205_30 rfl rfl rfl rfl rfl rfl rfl ?_
  refine jT_xiload_n (v := (0, 2)) (pcN := 34) jI_205_33 rfl rfl rfl ?_
  refine jT_lald (x := 0) (a := 7) (j := 2) (fs := []) (X := [x2, 0, 0, 0, 0, 0]) jI_205_34 rfl rfl rfl rfl ?_
  refine jT_eq (LN := [(2, (0, 2)), (1, (0, 1)), (0, (4, 0))]) (stN := [(1, 0)]) (hsN := [jzA_21, jgh, jgh, jgh, jgh, jgh, jgh, (101, [], [x2, 0, 0, 0, 0, 0]), jgh, jgh, jgh, jgh, jgh, jgh, jgh, jgh]) rfl rfl rfl ?_
  refine jT_adv 2 (pcN := 41) (LN := [(2, (0, 2)), (1, (0, 1)), (0, (4, 0))]) (stN := [(1, 5000), (1, (-5000)), (1, 0)]) (hsN := [jzA_21, jgh, jgh, jgh, jgh, jgh, jgh, (101, [], [x2, 0, 0, 0, 0, 0]), jgh, jgh, jgh, jgh, jgh, jgh, jgh, jgh]) (c1 := 0) (s1 := 0) (c2 := 0) (s2 := 0) (by exact rfl) ?_ (by omega) (by omega)
  refine jT_callA [] (y := 189) (pcN := 44) (dC := 0) (bc1 := 0) (bc2 := 0) (c1 := 0) (c2 := 0) (as := [(1, 0), (1, (-5000)), (1, 5000)]) (asC := [(1, 0), (1, (-5000)), (1, 5000)]) (LN := [(2, (0, 2)), (1, (0, 1)), (0, (4, 0))]) (stN := []) (hsC := []) (ex := []) (v := (0, 1)) (st2 := [(0, 1)]) (hs2 := [jzA_21, jgh, jgh, jgh, jgh, jgh, jgh, (101, [], [x2, 0, 0, 0, 0, 0]), jgh, jgh, jgh, jgh, jgh, jgh, jgh, jgh]) (jA_189_47 (d := 0)) (by rfl) (by rfl) (by rfl) (by rfl) trivial (by rfl) (by rfl) (by omega) (by show 16 ≤ 16; omega) (by omega) (by omega) rfl rfl ?_
  refine jT_xifF (t := 51) (pcN := 47) jI_205_44 rfl (by decide +kernel) rfl rfl ?_
  refine jT_xiconst (k := 1) (pcN := 48) jI_205_47 rfl ?_
  refine jT_xgoto (pcN := 52) jI_205_48 rfl ?_
  refine jT_xistore_n (v := (0, 1)) (LN := [(1, (0, 1)), (2, (0, 2)), (0, (4, 0))]) (pcN := 53) jI_205_52 rfl rfl rfl rfl ?_
  refine jT_xiinc (x := 2) (z := 3) (LN := [(2, (0, 3)), (1, (0, 1)), (0, (4, 0))]) (pcN := 56) jI_205_53 rfl rfl (by decide) rfl rfl ?_
  refine jT_xgoto (pcN := 19) jI_205_56 rfl ?_
  refine jT_xiload_n (v := (0, 3)) (pcN := 20) jI_205_19 rfl rfl rfl ?_
  refine jT_xbipush (k := 6) (pcN := 22) jI_205_20 (by decide) rfl ?_
  refine jT_xicF (t := 59) (pcN := 25) jI_205_22 rfl (by decide +kernel) rfl rfl ?_
  refine jT_xiload_n (v := (0, 1)) (pcN := 26) jI_205_25 rfl rfl rfl ?_
  refine jT_xifF (t := 51) (pcN := 29) jI_205_26 rfl (by decide +kernel) rfl rfl ?_
  refine jT_xaload_n (v := (4, 0)) (pcN := 30) jI_205_29 rfl rfl rfl ?_
  refine jT_xgetf (a := 0) (t := 1) (ci := 14) (fi := 9) (c := jzA_21) (v := (4, 7)) (pcN := 33) jI_205_30 rfl rfl rfl rfl rfl rfl rfl ?_
  refine jT_xiload_n (v := (0, 3)) (pcN := 34) jI_205_33 rfl rfl rfl ?_
  refine jT_lald (x := 0) (a := 7) (j := 3) (fs := []) (X := [x2, 0, 0, 0, 0, 0]) jI_205_34 rfl rfl rfl rfl ?_
  refine jT_eq (LN := [(2, (0, 3)), (1, (0, 1)), (0, (4, 0))]) (stN := [(1, 0)]) (hsN := [jzA_21, jgh, jgh, jgh, jgh, jgh, jgh, (101, [], [x2, 0, 0, 0, 0, 0]), jgh, jgh, jgh, jgh, jgh, jgh, jgh, jgh]) rfl rfl rfl ?_
  refine jT_adv 2 (pcN := 41) (LN := [(2, (0, 3)), (1, (0, 1)), (0, (4, 0))]) (stN := [(1, 5000), (1, (-5000)), (1, 0)]) (hsN := [jzA_21, jgh, jgh, jgh, jgh, jgh, jgh, (101, [], [x2, 0, 0, 0, 0, 0]), jgh, jgh, jgh, jgh, jgh, jgh, jgh, jgh]) (c1 := 0) (s1 := 0) (c2 := 0) (s2 := 0) (by exact rfl) ?_ (by omega) (by omega)
  refine jT_callA [] (y := 189) (pcN := 44) (dC := 0) (bc1 := 0) (bc2 := 0) (c1 := 0) (c2 := 0) (as := [(1, 0), (1, (-5000)), (1, 5000)]) (asC := [(1, 0), (1, (-5000)), (1, 5000)]) (LN := [(2, (0, 3)), (1, (0, 1)), (0, (4, 0))]) (stN := []) (hsC := []) (ex := []) (v := (0, 1)) (st2 := [(0, 1)]) (hs2 := [jzA_21, jgh, jgh, jgh, jgh, jgh, jgh, (101, [], [x2, 0, 0, 0, 0, 0]), jgh, jgh, jgh, jgh, jgh, jgh, jgh, jgh]) (jA_189_47 (d := 0)) (by rfl) (by rfl) (by rfl) (by rfl) trivial (by rfl) (by rfl) (by omega) (by show 16 ≤ 16; omega) (by omega) (by omega) rfl rfl ?_
  refine jT_xifF (t := 51) (pcN := 47) jI_205_44 rfl (by decide +kernel) rfl rfl ?_
  refine jT_xiconst (k := 1) (pcN := 48) jI_205_47 rfl ?_
  refine jT_xgoto (pcN := 52) jI_205_48 rfl ?_
  refine jT_xistore_n (v := (0, 1)) (LN := [(1, (0, 1)), (2, (0, 3)), (0, (4, 0))]) (pcN := 53) jI_205_52 rfl rfl rfl rfl ?_
  refine jT_xiinc (x := 3) (z := 4) (LN := [(2, (0, 4)), (1, (0, 1)), (0, (4, 0))]) (pcN := 56) jI_205_53 rfl rfl (by decide) rfl rfl ?_
  refine jT_xgoto (pcN := 19) jI_205_56 rfl ?_
  refine jT_xiload_n (v := (0, 4)) (pcN := 20) jI_205_19 rfl rfl rfl ?_
  refine jT_xbipush (k := 6) (pcN := 22) jI_205_20 (by decide) rfl ?_
  refine jT_xicF (t := 59) (pcN := 25) jI_205_22 rfl (by decide +kernel) rfl rfl ?_
  refine jT_xiload_n (v := (0, 1)) (pcN := 26) jI_205_25 rfl rfl rfl ?_
  refine jT_xifF (t := 51) (pcN := 29) jI_205_26 rfl (by decide +kernel) rfl rfl ?_
  refine jT_xaload_n (v := (4, 0)) (pcN := 30) jI_205_29 rfl rfl rfl ?_
  refine jT_xgetf (a := 0) (t := 1) (ci := 14) (fi := 9) (c := jzA_21) (v := (4, 7)) (pcN := 33) jI_205_30 rfl rfl rfl rfl rfl rfl rfl ?_
  refine jT_xiload_n (v := (0, 4)) (pcN := 34) jI_205_33 rfl rfl rfl ?_
  refine jT_lald (x := 0) (a := 7) (j := 4) (fs := []) (X := [x2, 0, 0, 0, 0, 0]) jI_205_34 rfl rfl rfl rfl ?_
  refine jT_eq (LN := [(2, (0, 4)), (1, (0, 1)), (0, (4, 0))]) (stN := [(1, 0)]) (hsN := [jzA_21, jgh, jgh, jgh, jgh, jgh, jgh, (101, [], [x2, 0, 0, 0, 0, 0]), jgh, jgh, jgh, jgh, jgh, jgh, jgh, jgh]) rfl rfl rfl ?_
  refine jT_adv 2 (pcN := 41) (LN := [(2, (0, 4)), (1, (0, 1)), (0, (4, 0))]) (stN := [(1, 5000), (1, (-5000)), (1, 0)]) (hsN := [jzA_21, jgh, jgh, jgh, jgh, jgh, jgh, (101, [], [x2, 0, 0, 0, 0, 0]), jgh, jgh, jgh, jgh, jgh, jgh, jgh, jgh]) (c1 := 0) (s1 := 0) (c2 := 0) (s2 := 0) (by exact rfl) ?_ (by omega) (by omega)
  refine jT_callA [] (y := 189) (pcN := 44) (dC := 0) (bc1 := 0) (bc2 := 0) (c1 := 0) (c2 := 0) (as := [(1, 0), (1, (-5000)), (1, 5000)]) (asC := [(1, 0), (1, (-5000)), (1, 5000)]) (LN := [(2, (0, 4)), (1, (0, 1)), (0, (4, 0))]) (stN := []) (hsC := []) (ex := []) (v := (0, 1)) (st2 := [(0, 1)]) (hs2 := [jzA_21, jgh, jgh, jgh, jgh, jgh, jgh, (101, [], [x2, 0, 0, 0, 0, 0]), jgh, jgh, jgh, jgh, jgh, jgh, jgh, jgh]) (jA_189_47 (d := 0)) (by rfl) (by rfl) (by rfl) (by rfl) trivial (by rfl) (by rfl) (by omega) (by show 16 ≤ 16; omega) (by omega) (by omega) rfl rfl ?_
  refine jT_xifF (t := 51) (pcN := 47) jI_205_44 rfl (by decide +kernel) rfl rfl ?_
  refine jT_xiconst (k := 1) (pcN := 48) jI_205_47 rfl ?_
  refine jT_xgoto (pcN := 52) jI_205_48 rfl ?_
  refine jT_xistore_n (v := (0, 1)) (LN := [(1, (0, 1)), (2, (0, 4)), (0, (4, 0))]) (pcN := 53) jI_205_52 rfl rfl rfl rfl ?_
  refine jT_xiinc (x := 4) (z := 5) (LN := [(2, (0, 5)), (1, (0, 1)), (0, (4, 0))]) (pcN := 56) jI_205_53 rfl rfl (by decide) rfl rfl ?_
  refine jT_xgoto (pcN := 19) jI_205_56 rfl ?_
  refine jT_xiload_n (v := (0, 5)) (pcN := 20) jI_205_19 rfl rfl rfl ?_
  refine jT_xbipush (k := 6) (pcN := 22) jI_205_20 (by decide) rfl ?_
  refine jT_xicF (t := 59) (pcN := 25) jI_205_22 rfl (by decide +kernel) rfl rfl ?_
  refine jT_xiload_n (v := (0, 1)) (pcN := 26) jI_205_25 rfl rfl rfl ?_
  refine jT_xifF (t := 51) (pcN := 29) jI_205_26 rfl (by decide +kernel) rfl rfl ?_
  refine jT_xaload_n (v := (4, 0)) (pcN := 30) jI_205_29 rfl rfl rfl ?_
  refine jT_xgetf (a := 0) (t := 1) (ci := 14) (fi := 9) (c := jzA_21) (v := (4, 7)) (pcN := 33) jI_205_30 rfl rfl rfl rfl rfl rfl rfl ?_
  refine jT_xiload_n (v := (0, 5)) (pcN := 34) jI_205_33 rfl rfl rfl ?_
  refine jT_lald (x := 0) (a := 7) (j := 5) (fs := []) (X := [x2, 0, 0, 0, 0, 0]) jI_205_34 rfl rfl rfl rfl ?_
  refine jT_eq (LN := [(2, (0, 5)), (1, (0, 1)), (0, (4, 0))]) (stN := [(1, 0)]) (hsN := [jzA_21, jgh, jgh, jgh, jgh, jgh, jgh, (101, [], [x2, 0, 0, 0, 0, 0]), jgh, jgh, jgh, jgh, jgh, jgh, jgh, jgh]) rfl rfl rfl ?_
  refine jT_adv 2 (pcN := 41) (LN := [(2, (0, 5)), (1, (0, 1)), (0, (4, 0))]) (stN := [(1, 5000), (1, (-5000)), (1, 0)]) (hsN := [jzA_21, jgh, jgh, jgh, jgh, jgh, jgh, (101, [], [x2, 0, 0, 0, 0, 0]), jgh, jgh, jgh, jgh, jgh, jgh, jgh, jgh]) (c1 := 0) (s1 := 0) (c2 := 0) (s2 := 0) (by exact rfl) ?_ (by omega) (by omega)
  refine jT_callA [] (y := 189) (pcN := 44) (dC := 0) (bc1 := 0) (bc2 := 0) (c1 := 0) (c2 := 0) (as := [(1, 0), (1, (-5000)), (1, 5000)]) (asC := [(1, 0), (1, (-5000)), (1, 5000)]) (LN := [(2, (0, 5)), (1, (0, 1)), (0, (4, 0))]) (stN := []) (hsC := []) (ex := []) (v := (0, 1)) (st2 := [(0, 1)]) (hs2 := [jzA_21, jgh, jgh, jgh, jgh, jgh, jgh, (101, [], [x2, 0, 0, 0, 0, 0]), jgh, jgh, jgh, jgh, jgh, jgh, jgh, jgh]) (jA_189_47 (d := 0)) (by rfl) (by rfl) (by rfl) (by rfl) trivial (by rfl) (by rfl) (by omega) (by show 16 ≤ 16; omega) (by omega) (by omega) rfl rfl ?_
  refine jT_xifF (t := 51) (pcN := 47) jI_205_44 rfl (by decide +kernel) rfl rfl ?_
  refine jT_xiconst (k := 1) (pcN := 48) jI_205_47 rfl ?_
  refine jT_xgoto (pcN := 52) jI_205_48 rfl ?_
  refine jT_xistore_n (v := (0, 1)) (LN := [(1, (0, 1)), (2, (0, 5)), (0, (4, 0))]) (pcN := 53) jI_205_52 rfl rfl rfl rfl ?_
  refine jT_xiinc (x := 5) (z := 6) (LN := [(2, (0, 6)), (1, (0, 1)), (0, (4, 0))]) (pcN := 56) jI_205_53 rfl rfl (by decide) rfl rfl ?_
  refine jT_xgoto (pcN := 19) jI_205_56 rfl ?_
  refine jT_xiload_n (v := (0, 6)) (pcN := 20) jI_205_19 rfl rfl rfl ?_
  refine jT_xbipush (k := 6) (pcN := 22) jI_205_20 (by decide) rfl ?_
  refine jT_xicT (pcN := 59) jI_205_22 rfl (by decide +kernel) rfl ?_
  refine jT_xiload_n (v := (0, 1)) (pcN := 60) jI_205_59 rfl rfl rfl ?_
  exact jT_ret rfl (by decide) (by show 16 ≤ 16; decide) (by omega) (by omega) ⟨rfl, rfl, rfl⟩
theorem jA_197_552 {xs : List Int} {d : Nat} {x2 x3 : Int} (h_x2 : (-200) ≤ x2 ∧ x2 ≤ (-1)) (h_x3 : 0 ≤ x3 ∧ x3 ≤ 7) : jT xs d 197 16 0 [(0, (4, 0)), (1, (4, 1)), (2, (0, 7 * x3))] [] [jzA_200, (100, [], jS0), jgh, jgh, jgh, jgh, jgh, (101, [], [x2, 0, 0, 0, 0, 0]), jgh, jgh, jgh, jgh, jgh, jgh, jgh, jgh] 0 0 (fun k v hsN => k = 0 ∧ v = (9, 0) ∧ hsN = [jzA_200, (100, [], ((((((((((((((jS0).set ((7 * x3).toNat) x2)).set ((7 * x3 + 1).toNat) 0)).set ((7 * x3 + 2).toNat) 0)).set ((7 * x3 + 3).toNat) 0)).set ((7 * x3 + 4).toNat) 0)).set ((7 * x3 + 5).toNat) 0)).set ((7 * x3 + 6).toNat) 1)), jgh, jgh, jgh, jgh, jgh, (101, [], [x2, 0, 0, 0, 0, 0]), jgh, jgh, jgh, jgh, jgh, jgh, jgh, jgh]) := by
  refine jT_xiconst (k := 0) (pcN := 1) jI_197_0 rfl ?_
  refine jT_xistore_n (v := (0, 0)) (LN := [(3, (0, 0)), (0, (4, 0)), (1, (4, 1)), (2, (0, 7 * x3))]) (pcN := 2) jI_197_1 rfl rfl rfl rfl ?_
  refine jT_xiload_n (v := (0, 0)) (pcN := 3) jI_197_2 rfl rfl rfl ?_
  refine jT_xbipush (k := 6) (pcN := 5) jI_197_3 (by decide) rfl ?_
  refine jT_xicF (t := 26) (pcN := 8) jI_197_5 rfl (by decide +kernel) rfl rfl ?_
  refine jT_xaload_n (v := (4, 1)) (pcN := 9) jI_197_8 rfl rfl rfl ?_
  refine jT_xiload_n (v := (0, 7 * x3)) (pcN := 10) jI_197_9 rfl rfl rfl ?_
  refine jT_xiload_n (v := (0, 0)) (pcN := 11) jI_197_10 rfl rfl rfl ?_
  refine jT_xiadd (x := 7 * x3) (y := 0) (z := 7 * x3) (pcN := 12) jI_197_11 rfl (by omega) rfl ?_
  refine jT_xaload_n (v := (4, 0)) (pcN := 13) jI_197_12 rfl rfl rfl ?_
  refine jT_xgetf (a := 0) (t := 1) (ci := 14) (fi := 9) (c := jzA_200) (v := (4, 7)) (pcN := 16) jI_197_13 rfl rfl rfl rfl rfl rfl rfl ?_
  refine jT_xiload_n (v := (0, 0)) (pcN := 17) jI_197_16 rfl rfl rfl ?_
  refine jT_lald (x := x2) (a := 7) (j := 0) (fs := []) (X := [x2, 0, 0, 0, 0, 0]) jI_197_17 rfl rfl rfl rfl ?_
  refine jT_eq (LN := [(3, (0, 0)), (0, (4, 0)), (1, (4, 1)), (2, (0, 7 * x3))]) (stN := [(1, x2), (0, 7 * x3), (4, 1)]) (hsN := [jzA_200, (100, [], jS0), jgh, jgh, jgh, jgh, jgh, (101, [], [x2, 0, 0, 0, 0, 0]), jgh, jgh, jgh, jgh, jgh, jgh, jgh, jgh]) rfl rfl rfl ?_
  refine jT_xl2i (pcN := 19) jI_197_18 rfl rfl ?_
  refine jT_iast (x := x2) (a := 1) (j := (7 * x3).toNat) (fs := []) (X := jS0) (by rfl) (by rfl) (by rfl) (jw_nn (by omega) (by omega)) (by rw [show List.length (jS0 : List Int) = 1613 from jS0_len]; omega) ?_
  refine jT_eq (LN := [(3, (0, 0)), (0, (4, 0)), (1, (4, 1)), (2, (0, 7 * x3))]) (stN := []) (hsN := [jzA_200, (100, [], ((jS0).set ((7 * x3).toNat) x2)), jgh, jgh, jgh, jgh, jgh, (101, [], [x2, 0, 0, 0, 0, 0]), jgh, jgh, jgh, jgh, jgh, jgh, jgh, jgh]) rfl rfl rfl ?_
  refine jT_xiinc (x := 0) (z := 1) (LN := [(3, (0, 1)), (0, (4, 0)), (1, (4, 1)), (2, (0, 7 * x3))]) (pcN := 23) jI_197_20 rfl rfl (by decide) rfl rfl ?_
  refine jT_xgoto (pcN := 2) jI_197_23 rfl ?_
  refine jT_xiload_n (v := (0, 1)) (pcN := 3) jI_197_2 rfl rfl rfl ?_
  refine jT_xbipush (k := 6) (pcN := 5) jI_197_3 (by decide) rfl ?_
  refine jT_xicF (t := 26) (pcN := 8) jI_197_5 rfl (by decide +kernel) rfl rfl ?_
  refine jT_xaload_n (v := (4, 1)) (pcN := 9) jI_197_8 rfl rfl rfl ?_
  refine jT_xiload_n (v := (0, 7 * x3)) (pcN := 10) jI_197_9 rfl rfl rfl ?_
  refine jT_xiload_n (v := (0, 1)) (pcN := 11) jI_197_10 rfl rfl rfl ?_
  refine jT_xiadd (x := 7 * x3) (y := 1) (z := 7 * x3 + 1) (pcN := 12) jI_197_11 rfl (by omega) rfl ?_
  refine jT_xaload_n (v := (4, 0)) (pcN := 13) jI_197_12 rfl rfl rfl ?_
  refine jT_xgetf (a := 0) (t := 1) (ci := 14) (fi := 9) (c := jzA_200) (v := (4, 7)) (pcN := 16) jI_197_13 rfl rfl rfl rfl rfl rfl rfl ?_
  refine jT_xiload_n (v := (0, 1)) (pcN := 17) jI_197_16 rfl rfl rfl ?_
  refine jT_lald (x := 0) (a := 7) (j := 1) (fs := []) (X := [x2, 0, 0, 0, 0, 0]) jI_197_17 rfl rfl rfl rfl ?_
  refine jT_eq (LN := [(3, (0, 1)), (0, (4, 0)), (1, (4, 1)), (2, (0, 7 * x3))]) (stN := [(1, 0), (0, 7 * x3 + 1), (4, 1)]) (hsN := [jzA_200, (100, [], ((jS0).set ((7 * x3).toNat) x2)), jgh, jgh, jgh, jgh, jgh, (101, [], [x2, 0, 0, 0, 0, 0]), jgh, jgh, jgh, jgh, jgh, jgh, jgh, jgh]) rfl rfl rfl ?_
  refine jT_xl2i (pcN := 19) jI_197_18 rfl rfl ?_
  refine jT_iast (x := 0) (a := 1) (j := (7 * x3 + 1).toNat) (fs := []) (X := ((jS0).set ((7 * x3).toNat) x2)) (by rfl) (by rfl) (by rfl) (jw_nn (by omega) (by omega)) (by rw [show List.length (((jS0).set ((7 * x3).toNat) x2) : List Int) = 1613 from by rw [List.length_set]; exact (jS0_len)]; omega) ?_
  refine jT_eq (LN := [(3, (0, 1)), (0, (4, 0)), (1, (4, 1)), (2, (0, 7 * x3))]) (stN := []) (hsN := [jzA_200, (100, [], ((((jS0).set ((7 * x3).toNat) x2)).set ((7 * x3 + 1).toNat) 0)), jgh, jgh, jgh, jgh, jgh, (101, [], [x2, 0, 0, 0, 0, 0]), jgh, jgh, jgh, jgh, jgh, jgh, jgh, jgh]) rfl rfl rfl ?_
  refine jT_xiinc (x := 1) (z := 2) (LN := [(3, (0, 2)), (0, (4, 0)), (1, (4, 1)), (2, (0, 7 * x3))]) (pcN := 23) jI_197_20 rfl rfl (by decide) rfl rfl ?_
  refine jT_xgoto (pcN := 2) jI_197_23 rfl ?_
  refine jT_xiload_n (v := (0, 2)) (pcN := 3) jI_197_2 rfl rfl rfl ?_
  refine jT_xbipush (k := 6) (pcN := 5) jI_197_3 (by decide) rfl ?_
  refine jT_xicF (t := 26) (pcN := 8) jI_197_5 rfl (by decide +kernel) rfl rfl ?_
  refine jT_xaload_n (v := (4, 1)) (pcN := 9) jI_197_8 rfl rfl rfl ?_
  refine jT_xiload_n (v := (0, 7 * x3)) (pcN := 10) jI_197_9 rfl rfl rfl ?_
  refine jT_xiload_n (v := (0, 2)) (pcN := 11) jI_197_10 rfl rfl rfl ?_
  refine jT_xiadd (x := 7 * x3) (y := 2) (z := 7 * x3 + 2) (pcN := 12) jI_197_11 rfl (by omega) rfl ?_
  refine jT_xaload_n (v := (4, 0)) (pcN := 13) jI_197_12 rfl rfl rfl ?_
  refine jT_xgetf (a := 0) (t := 1) (ci := 14) (fi := 9) (c := jzA_200) (v := (4, 7)) (pcN := 16) jI_197_13 rfl rfl rfl rfl rfl rfl rfl ?_
  refine jT_xiload_n (v := (0, 2)) (pcN := 17) jI_197_16 rfl rfl rfl ?_
  refine jT_lald (x := 0) (a := 7) (j := 2) (fs := []) (X := [x2, 0, 0, 0, 0, 0]) jI_197_17 rfl rfl rfl rfl ?_
  refine jT_eq (LN := [(3, (0, 2)), (0, (4, 0)), (1, (4, 1)), (2, (0, 7 * x3))]) (stN := [(1, 0), (0, 7 * x3 + 2), (4, 1)]) (hsN := [jzA_200, (100, [], ((((jS0).set ((7 * x3).toNat) x2)).set ((7 * x3 + 1).toNat) 0)), jgh, jgh, jgh, jgh, jgh, (101, [], [x2, 0, 0, 0, 0, 0]), jgh, jgh, jgh, jgh, jgh, jgh, jgh, jgh]) rfl rfl rfl ?_
  refine jT_xl2i (pcN := 19) jI_197_18 rfl rfl ?_
  refine jT_iast (x := 0) (a := 1) (j := (7 * x3 + 2).toNat) (fs := []) (X := ((((jS0).set ((7 * x3).toNat) x2)).set ((7 * x3 + 1).toNat) 0)) (by rfl) (by rfl) (by rfl) (jw_nn (by omega) (by omega)) (by rw [show List.length (((((jS0).set ((7 * x3).toNat) x2)).set ((7 * x3 + 1).toNat) 0) : List Int) = 1613 from by rw [List.length_set, List.length_set]; exact (jS0_len)]; omega) ?_
  refine jT_eq (LN := [(3, (0, 2)), (0, (4, 0)), (1, (4, 1)), (2, (0, 7 * x3))]) (stN := []) (hsN := [jzA_200, (100, [], ((((((jS0).set ((7 * x3).toNat) x2)).set ((7 * x3 + 1).toNat) 0)).set ((7 * x3 + 2).toNat) 0)), jgh, jgh, jgh, jgh, jgh, (101, [], [x2, 0, 0, 0, 0, 0]), jgh, jgh, jgh, jgh, jgh, jgh, jgh, jgh]) rfl rfl rfl ?_
  refine jT_xiinc (x := 2) (z := 3) (LN := [(3, (0, 3)), (0, (4, 0)), (1, (4, 1)), (2, (0, 7 * x3))]) (pcN := 23) jI_197_20 rfl rfl (by decide) rfl rfl ?_
  refine jT_xgoto (pcN := 2) jI_197_23 rfl ?_
  refine jT_xiload_n (v := (0, 3)) (pcN := 3) jI_197_2 rfl rfl rfl ?_
  refine jT_xbipush (k := 6) (pcN := 5) jI_197_3 (by decide) rfl ?_
  refine jT_xicF (t := 26) (pcN := 8) jI_197_5 rfl (by decide +kernel) rfl rfl ?_
  refine jT_xaload_n (v := (4, 1)) (pcN := 9) jI_197_8 rfl rfl rfl ?_
  refine jT_xiload_n (v := (0, 7 * x3)) (pcN := 10) jI_197_9 rfl rfl rfl ?_
  refine jT_xiload_n (v := (0, 3)) (pcN := 11) jI_197_10 rfl rfl rfl ?_
  refine jT_xiadd (x := 7 * x3) (y := 3) (z := 7 * x3 + 3) (pcN := 12) jI_197_11 rfl (by omega) rfl ?_
  refine jT_xaload_n (v := (4, 0)) (pcN := 13) jI_197_12 rfl rfl rfl ?_
  refine jT_xgetf (a := 0) (t := 1) (ci := 14) (fi := 9) (c := jzA_200) (v := (4, 7)) (pcN := 16) jI_197_13 rfl rfl rfl rfl rfl rfl rfl ?_
  refine jT_xiload_n (v := (0, 3)) (pcN := 17) jI_197_16 rfl rfl rfl ?_
  refine jT_lald (x := 0) (a := 7) (j := 3) (fs := []) (X := [x2, 0, 0, 0, 0, 0]) jI_197_17 rfl rfl rfl rfl ?_
  refine jT_eq (LN := [(3, (0, 3)), (0, (4, 0)), (1, (4, 1)), (2, (0, 7 * x3))]) (stN := [(1, 0), (0, 7 * x3 + 3), (4, 1)]) (hsN := [jzA_200, (100, [], ((((((jS0).set ((7 * x3).toNat) x2)).set ((7 * x3 + 1).toNat) 0)).set ((7 * x3 + 2).toNat) 0)), jgh, jgh, jgh, jgh, jgh, (101, [], [x2, 0, 0, 0, 0, 0]), jgh, jgh, jgh, jgh, jgh, jgh, jgh, jgh]) rfl rfl rfl ?_
  refine jT_xl2i (pcN := 19) jI_197_18 rfl rfl ?_
  refine jT_iast (x := 0) (a := 1) (j := (7 * x3 + 3).toNat) (fs := []) (X := ((((((jS0).set ((7 * x3).toNat) x2)).set ((7 * x3 + 1).toNat) 0)).set ((7 * x3 + 2).toNat) 0)) (by rfl) (by rfl) (by rfl) (jw_nn (by omega) (by omega)) (by rw [show List.length (((((((jS0).set ((7 * x3).toNat) x2)).set ((7 * x3 + 1).toNat) 0)).set ((7 * x3 + 2).toNat) 0) : List Int) = 1613 from by rw [List.length_set, List.length_set, List.length_set]; exact (jS0_len)]; omega) ?_
  refine jT_eq (LN := [(3, (0, 3)), (0, (4, 0)), (1, (4, 1)), (2, (0, 7 * x3))]) (stN := []) (hsN := [jzA_200, (100, [], ((((((((jS0).set ((7 * x3).toNat) x2)).set ((7 * x3 + 1).toNat) 0)).set ((7 * x3 + 2).toNat) 0)).set ((7 * x3 + 3).toNat) 0)), jgh, jgh, jgh, jgh, jgh, (101, [], [x2, 0, 0, 0, 0, 0]), jgh, jgh, jgh, jgh, jgh, jgh, jgh, jgh]) rfl rfl rfl ?_
  refine jT_xiinc (x := 3) (z := 4) (LN := [(3, (0, 4)), (0, (4, 0)), (1, (4, 1)), (2, (0, 7 * x3))]) (pcN := 23) jI_197_20 rfl rfl (by decide) rfl rfl ?_
  refine jT_xgoto (pcN := 2) jI_197_23 rfl ?_
  refine jT_xiload_n (v := (0, 4)) (pcN := 3) jI_197_2 rfl rfl rfl ?_
  refine jT_xbipush (k := 6) (pcN := 5) jI_197_3 (by decide) rfl ?_
  refine jT_xicF (t := 26) (pcN := 8) jI_197_5 rfl (by decide +kernel) rfl rfl ?_
  refine jT_xaload_n (v := (4, 1)) (pcN := 9) jI_197_8 rfl rfl rfl ?_
  refine jT_xiload_n (v := (0, 7 * x3)) (pcN := 10) jI_197_9 rfl rfl rfl ?_
  refine jT_xiload_n (v := (0, 4)) (pcN := 11) jI_197_10 rfl rfl rfl ?_
  refine jT_xiadd (x := 7 * x3) (y := 4) (z := 7 * x3 + 4) (pcN := 12) jI_197_11 rfl (by omega) rfl ?_
  refine jT_xaload_n (v := (4, 0)) (pcN := 13) jI_197_12 rfl rfl rfl ?_
  refine jT_xgetf (a := 0) (t := 1) (ci := 14) (fi := 9) (c := jzA_200) (v := (4, 7)) (pcN := 16) jI_197_13 rfl rfl rfl rfl rfl rfl rfl ?_
  refine jT_xiload_n (v := (0, 4)) (pcN := 17) jI_197_16 rfl rfl rfl ?_
  refine jT_lald (x := 0) (a := 7) (j := 4) (fs := []) (X := [x2, 0, 0, 0, 0, 0]) jI_197_17 rfl rfl rfl rfl ?_
  refine jT_eq (LN := [(3, (0, 4)), (0, (4, 0)), (1, (4, 1)), (2, (0, 7 * x3))]) (stN := [(1, 0), (0, 7 * x3 + 4), (4, 1)]) (hsN := [jzA_200, (100, [], ((((((((jS0).set ((7 * x3).toNat) x2)).set ((7 * x3 + 1).toNat) 0)).set ((7 * x3 + 2).toNat) 0)).set ((7 * x3 + 3).toNat) 0)), jgh, jgh, jgh, jgh, jgh, (101, [], [x2, 0, 0, 0, 0, 0]), jgh, jgh, jgh, jgh, jgh, jgh, jgh, jgh]) rfl rfl rfl ?_
  refine jT_xl2i (pcN := 19) jI_197_18 rfl rfl ?_
  refine jT_iast (x := 0) (a := 1) (j := (7 * x3 + 4).toNat) (fs := []) (X := ((((((((jS0).set ((7 * x3).toNat) x2)).set ((7 * x3 + 1).toNat) 0)).set ((7 * x3 + 2).toNat) 0)).set ((7 * x3 + 3).toNat) 0)) (by rfl) (by rfl) (by rfl) (jw_nn (by omega) (by omega)) (by rw [show List.length (((((((((jS0).set ((7 * x3).toNat) x2)).set ((7 * x3 + 1).toNat) 0)).set ((7 * x3 + 2).toNat) 0)).set ((7 * x3 + 3).toNat) 0) : List Int) = 1613 from by rw [List.length_set, List.length_set, List.length_set, List.length_set]; exact (jS0_len)]; omega) ?_
  refine jT_eq (LN := [(3, (0, 4)), (0, (4, 0)), (1, (4, 1)), (2, (0, 7 * x3))]) (stN := []) (hsN := [jzA_200, (100, [], ((((((((((jS0).set ((7 * x3).toNat) x2)).set ((7 * x3 + 1).toNat) 0)).set ((7 * x3 + 2).toNat) 0)).set ((7 * x3 + 3).toNat) 0)).set ((7 * x3 + 4).toNat) 0)), jgh, jgh, jgh, jgh, jgh, (101, [], [x2, 0, 0, 0, 0, 0]), jgh, jgh, jgh, jgh, jgh, jgh, jgh, jgh]) rfl rfl rfl ?_
  refine jT_xiinc (x := 4) (z := 5) (LN := [(3, (0, 5)), (0, (4, 0)), (1, (4, 1)), (2, (0, 7 * x3))]) (pcN := 23) jI_197_20 rfl rfl (by decide) rfl rfl ?_
  refine jT_xgoto (pcN := 2) jI_197_23 rfl ?_
  refine jT_xiload_n (v := (0, 5)) (pcN := 3) jI_197_2 rfl rfl rfl ?_
  refine jT_xbipush (k := 6) (pcN := 5) jI_197_3 (by decide) rfl ?_
  refine jT_xicF (t := 26) (pcN := 8) jI_197_5 rfl (by decide +kernel) rfl rfl ?_
  refine jT_xaload_n (v := (4, 1)) (pcN := 9) jI_197_8 rfl rfl rfl ?_
  refine jT_xiload_n (v := (0, 7 * x3)) (pcN := 10) jI_197_9 rfl rfl rfl ?_
  refine jT_xiload_n (v := (0, 5)) (pcN := 11) jI_197_10 rfl rfl rfl ?_
  refine jT_xiadd (x := 7 * x3) (y := 5) (z := 7 * x3 + 5) (pcN := 12) jI_197_11 rfl (by omega) rfl ?_
  refine jT_xaload_n (v := (4, 0)) (pcN := 13) jI_197_12 rfl rfl rfl ?_
  refine jT_xgetf (a := 0) (t := 1) (ci := 14) (fi := 9) (c := jzA_200) (v := (4, 7)) (pcN := 16) jI_197_13 rfl rfl rfl rfl rfl rfl rfl ?_
  refine jT_xiload_n (v := (0, 5)) (pcN := 17) jI_197_16 rfl rfl rfl ?_
  refine jT_lald (x := 0) (a := 7) (j := 5) (fs := []) (X := [x2, 0, 0, 0, 0, 0]) jI_197_17 rfl rfl rfl rfl ?_
  refine jT_eq (LN := [(3, (0, 5)), (0, (4, 0)), (1, (4, 1)), (2, (0, 7 * x3))]) (stN := [(1, 0), (0, 7 * x3 + 5), (4, 1)]) (hsN := [jzA_200, (100, [], ((((((((((jS0).set ((7 * x3).toNat) x2)).set ((7 * x3 + 1).toNat) 0)).set ((7 * x3 + 2).toNat) 0)).set ((7 * x3 + 3).toNat) 0)).set ((7 * x3 + 4).toNat) 0)), jgh, jgh, jgh, jgh, jgh, (101, [], [x2, 0, 0, 0, 0, 0]), jgh, jgh, jgh, jgh, jgh, jgh, jgh, jgh]) rfl rfl rfl ?_
  refine jT_xl2i (pcN := 19) jI_197_18 rfl rfl ?_
  refine jT_iast (x := 0) (a := 1) (j := (7 * x3 + 5).toNat) (fs := []) (X := ((((((((((jS0).set ((7 * x3).toNat) x2)).set ((7 * x3 + 1).toNat) 0)).set ((7 * x3 + 2).toNat) 0)).set ((7 * x3 + 3).toNat) 0)).set ((7 * x3 + 4).toNat) 0)) (by rfl) (by rfl) (by rfl) (jw_nn (by omega) (by omega)) (by rw [show List.length (((((((((((jS0).set ((7 * x3).toNat) x2)).set ((7 * x3 + 1).toNat) 0)).set ((7 * x3 + 2).toNat) 0)).set ((7 * x3 + 3).toNat) 0)).set ((7 * x3 + 4).toNat) 0) : List Int) = 1613 from by rw [List.length_set, List.length_set, List.length_set, List.length_set, List.length_set]; exact (jS0_len)]; omega) ?_
  refine jT_eq (LN := [(3, (0, 5)), (0, (4, 0)), (1, (4, 1)), (2, (0, 7 * x3))]) (stN := []) (hsN := [jzA_200, (100, [], ((((((((((((jS0).set ((7 * x3).toNat) x2)).set ((7 * x3 + 1).toNat) 0)).set ((7 * x3 + 2).toNat) 0)).set ((7 * x3 + 3).toNat) 0)).set ((7 * x3 + 4).toNat) 0)).set ((7 * x3 + 5).toNat) 0)), jgh, jgh, jgh, jgh, jgh, (101, [], [x2, 0, 0, 0, 0, 0]), jgh, jgh, jgh, jgh, jgh, jgh, jgh, jgh]) rfl rfl rfl ?_
  refine jT_xiinc (x := 5) (z := 6) (LN := [(3, (0, 6)), (0, (4, 0)), (1, (4, 1)), (2, (0, 7 * x3))]) (pcN := 23) jI_197_20 rfl rfl (by decide) rfl rfl ?_
  refine jT_xgoto (pcN := 2) jI_197_23 rfl ?_
  refine jT_xiload_n (v := (0, 6)) (pcN := 3) jI_197_2 rfl rfl rfl ?_
  refine jT_xbipush (k := 6) (pcN := 5) jI_197_3 (by decide) rfl ?_
  refine jT_xicT (pcN := 26) jI_197_5 rfl (by decide +kernel) rfl ?_
  refine jT_xaload_n (v := (4, 1)) (pcN := 27) jI_197_26 rfl rfl rfl ?_
  refine jT_xiload_n (v := (0, 7 * x3)) (pcN := 28) jI_197_27 rfl rfl rfl ?_
  refine jT_xbipush (k := 6) (pcN := 30) jI_197_28 (by decide) rfl ?_
  refine jT_xiadd (x := 7 * x3) (y := 6) (z := 7 * x3 + 6) (pcN := 31) jI_197_30 rfl (by omega) rfl ?_
  refine jT_xaload_n (v := (4, 0)) (pcN := 32) jI_197_31 rfl rfl rfl ?_
  refine jT_xgetf (a := 0) (t := 1) (ci := 14) (fi := 10) (c := jzA_200) (v := (1, 1)) (pcN := 35) jI_197_32 rfl rfl rfl rfl rfl rfl rfl ?_
  refine jT_xl2i (pcN := 36) jI_197_35 rfl rfl ?_
  refine jT_iast (x := 1) (a := 1) (j := (7 * x3 + 6).toNat) (fs := []) (X := ((((((((((((jS0).set ((7 * x3).toNat) x2)).set ((7 * x3 + 1).toNat) 0)).set ((7 * x3 + 2).toNat) 0)).set ((7 * x3 + 3).toNat) 0)).set ((7 * x3 + 4).toNat) 0)).set ((7 * x3 + 5).toNat) 0)) (by rfl) (by rfl) (by rfl) (jw_nn (by omega) (by omega)) (by rw [show List.length (((((((((((((jS0).set ((7 * x3).toNat) x2)).set ((7 * x3 + 1).toNat) 0)).set ((7 * x3 + 2).toNat) 0)).set ((7 * x3 + 3).toNat) 0)).set ((7 * x3 + 4).toNat) 0)).set ((7 * x3 + 5).toNat) 0) : List Int) = 1613 from by rw [List.length_set, List.length_set, List.length_set, List.length_set, List.length_set, List.length_set]; exact (jS0_len)]; omega) ?_
  refine jT_eq (LN := [(3, (0, 6)), (0, (4, 0)), (1, (4, 1)), (2, (0, 7 * x3))]) (stN := []) (hsN := [jzA_200, (100, [], ((((((((((((((jS0).set ((7 * x3).toNat) x2)).set ((7 * x3 + 1).toNat) 0)).set ((7 * x3 + 2).toNat) 0)).set ((7 * x3 + 3).toNat) 0)).set ((7 * x3 + 4).toNat) 0)).set ((7 * x3 + 5).toNat) 0)).set ((7 * x3 + 6).toNat) 1)), jgh, jgh, jgh, jgh, jgh, (101, [], [x2, 0, 0, 0, 0, 0]), jgh, jgh, jgh, jgh, jgh, jgh, jgh, jgh]) rfl rfl rfl ?_
  exact jT_ret rfl (by decide) (by show 16 ≤ 16; decide) (by omega) (by omega) ⟨rfl, rfl, rfl⟩
theorem jA_196_553 {xs : List Int} {d : Nat} {x2 x3 : Int} (h_x2 : (-200) ≤ x2 ∧ x2 ≤ (-1)) (h_x3 : 0 ≤ x3 ∧ x3 ≤ 7) : jT xs (d + 1) 196 16 0 [(0, (4, 0)), (1, (0, x3))] [] [jzA_200, (100, [], jS0), jgh, jgh, jgh, jgh, jgh, (101, [], [x2, 0, 0, 0, 0, 0]), jgh, jgh, jgh, jgh, jgh, jgh, jgh, jgh] 0 0 (fun k v hsN => k = 0 ∧ v = (0, 1) ∧ hsN = [jzA_200, (100, [], ((((((((((((((jS0).set ((7 * x3).toNat) x2)).set ((7 * x3 + 1).toNat) 0)).set ((7 * x3 + 2).toNat) 0)).set ((7 * x3 + 3).toNat) 0)).set ((7 * x3 + 4).toNat) 0)).set ((7 * x3 + 5).toNat) 0)).set ((7 * x3 + 6).toNat) 1)), jgh, jgh, jgh, jgh, jgh, (101, [], [x2, 0, 0, 0, 0, 0]), jgh, jgh, jgh, jgh, jgh, jgh, jgh, jgh]) := by
  refine jT_xaload_n (v := (4, 0)) (pcN := 1) jI_196_0 rfl rfl rfl ?_
  refine jT_xaload_n (v := (4, 0)) (pcN := 2) jI_196_1 rfl rfl rfl ?_
  refine jT_xgetf (a := 0) (t := 1) (ci := 14) (fi := 1) (c := jzA_200) (v := (4, 1)) (pcN := 5) jI_196_2 rfl rfl rfl rfl rfl rfl rfl ?_
  refine jT_xbipush (k := 7) (pcN := 7) jI_196_5 (by decide) rfl ?_
  refine jT_xiload_n (v := (0, x3)) (pcN := 8) jI_196_7 rfl rfl rfl ?_
  refine jT_ximul (x := 7) (y := x3) (z := 7 * x3) (pcN := 9) jI_196_8 rfl (rfl) rfl ?_
  refine jT_callB [0, 1, 2, 3, 4, 5, 6, 7, 8, 9, 10, 11, 12, 13, 14, 15] (y := 197) (pcN := 12) (dC := 0) (bc1 := 0) (bc2 := 0) (c1 := 0) (c2 := 0) (as := [(4, 0), (4, 1), (0, 7 * x3)]) (asC := [(4, 0), (4, 1), (0, 7 * x3)]) (LN := [(0, (4, 0)), (1, (0, x3))]) (stN := []) (hsC := [jzA_200, (100, [], jS0), jgh, jgh, jgh, jgh, jgh, (101, [], [x2, 0, 0, 0, 0, 0]), jgh, jgh, jgh, jgh, jgh, jgh, jgh, jgh]) (hsD := [jzA_200, (100, [], ((((((((((((((jS0).set ((7 * x3).toNat) x2)).set ((7 * x3 + 1).toNat) 0)).set ((7 * x3 + 2).toNat) 0)).set ((7 * x3 + 3).toNat) 0)).set ((7 * x3 + 4).toNat) 0)).set ((7 * x3 + 5).toNat) 0)).set ((7 * x3 + 6).toNat) 1)), jgh, jgh, jgh, jgh, jgh, (101, [], [x2, 0, 0, 0, 0, 0]), jgh, jgh, jgh, jgh, jgh, jgh, jgh, jgh]) (v := (9, 0)) (st2 := []) (hs2 := [jzA_200, (100, [], ((((((((((((((jS0).set ((7 * x3).toNat) x2)).set ((7 * x3 + 1).toNat) 0)).set ((7 * x3 + 2).toNat) 0)).set ((7 * x3 + 3).toNat) 0)).set ((7 * x3 + 4).toNat) 0)).set ((7 * x3 + 5).toNat) 0)).set ((7 * x3 + 6).toNat) 1)), jgh, jgh, jgh, jgh, jgh, (101, [], [x2, 0, 0, 0, 0, 0]), jgh, jgh, jgh, jgh, jgh, jgh, jgh, jgh]) (jA_197_552 (d := 0) (by omega) (by omega)) (by rfl) (by rfl) (by rfl) (by rfl) ⟨rfl, rfl, rfl, rfl, rfl, rfl, rfl, rfl, rfl, rfl, rfl, rfl, rfl, rfl, rfl, rfl, trivial⟩ (by rfl) (by rfl) (by omega) (by show 16 ≤ 16; omega) (by omega) (by omega) rfl rfl ?_
  refine jT_xaload_n (v := (4, 0)) (pcN := 13) jI_196_12 rfl rfl rfl ?_
  refine jT_xgetf (a := 0) (t := 1) (ci := 14) (fi := 10) (c := jzA_200) (v := (1, 1)) (pcN := 16) jI_196_13 rfl rfl rfl rfl rfl rfl rfl ?_
  refine jT_xl2i (pcN := 17) jI_196_16 rfl rfl ?_
  exact jT_ret rfl (by decide) (by show 16 ≤ 16; decide) (by omega) (by omega) ⟨rfl, rfl, rfl⟩
theorem jI_252_47 : jmI (jm 252) 47 = (.iload_n 2, 1) := by rfl
theorem jI_252_48 : jmI (jm 252) 48 = (.aload_n 0, 1) := by rfl
theorem jI_252_49 : jmI (jm 252) 49 = (.iload_n 1, 1) := by rfl
theorem jI_252_56 : jmI (jm 252) 56 = (.istore 4, 2) := by rfl
theorem jI_252_58 : jmI (jm 252) 58 = (.aload_n 0, 1) := by rfl
theorem jI_252_59 : jmI (jm 252) 59 = (.aload_n 0, 1) := by rfl
theorem jI_252_60 : jmI (jm 252) 60 = (.getfield 9, 3) := by rfl
theorem jI_252_63 : jmI (jm 252) 63 = (.iload_n 1, 1) := by rfl
theorem jI_252_64 : jmI (jm 252) 64 = (.iload 4, 2) := by rfl
theorem jI_252_72 : jmI (jm 252) 72 = (.aload_n 0, 1) := by rfl
theorem jI_252_73 : jmI (jm 252) 73 = (.getfield 31, 3) := by rfl
theorem jI_252_76 : jmI (jm 252) 76 = (.iconst 0, 1) := by rfl
theorem jI_252_78 : jmI (jm 252) 78 = (.laload, 1) := by rfl
theorem jI_252_79 : jmI (jm 252) 79 = (.aload_n 0, 1) := by rfl
theorem jI_252_80 : jmI (jm 252) 80 = (.getfield 35, 3) := by rfl
theorem jI_252_83 : jmI (jm 252) 83 = (.iload_n 2, 1) := by rfl
theorem jI_252_84 : jmI (jm 252) 84 = (.aload_n 0, 1) := by rfl
theorem jI_252_85 : jmI (jm 252) 85 = (.iload_n 1, 1) := by rfl
theorem jI_252_92 : jmI (jm 252) 92 = (.i2l, 1) := by rfl
theorem jI_252_93 : jmI (jm 252) 93 = (.lmul, 1) := by rfl
theorem jI_252_94 : jmI (jm 252) 94 = (.ladd, 1) := by rfl
theorem jI_252_96 : jmI (jm 252) 96 = (.aload_n 0, 1) := by rfl
theorem jI_252_97 : jmI (jm 252) 97 = (.aload_n 0, 1) := by rfl
theorem jI_252_101 : jmI (jm 252) 101 = (.iconst 3, 1) := by rfl
theorem jI_252_105 : jmI (jm 252) 105 = (.ifCond .eq 5, 3) := by rfl
theorem jI_252_110 : jmI (jm 252) 110 = (.aload_n 0, 1) := by rfl
theorem jI_252_114 : jmI (jm 252) 114 = (.aload_n 0, 1) := by rfl
theorem jI_252_115 : jmI (jm 252) 115 = (.iload_n 3, 1) := by rfl
theorem jI_252_120 : jmI (jm 252) 120 = (.iload 4, 2) := by rfl
theorem jA_252_554 {xs : List Int} {d : Nat} {x2 x3 : Int} (h_x2 : (-200) ≤ x2 ∧ x2 ≤ (-1)) (h_x3 : 0 ≤ x3 ∧ x3 ≤ 7) : jT xs (d + 2) 252 24 0 [(0, (4, 0)), (1, (0, 0)), (2, (0, x2)), (3, (0, x3))] [] jpA_248 0 0 (fun k v hsN => k = 0 ∧ v = (0, 0) ∧ hsN = [jzA_200, (100, [], ((((((((((((((jS0).set ((7 * x3).toNat) x2)).set ((7 * x3 + 1).toNat) 0)).set ((7 * x3 + 2).toNat) 0)).set ((7 * x3 + 3).toNat) 0)).set ((7 * x3 + 4).toNat) 0)).set ((7 * x3 + 5).toNat) 0)).set ((7 * x3 + 6).toNat) 1)), (100, [], []), jzA_196, jzA_201, jgh, jgh, (101, [], [x2, 0, 0, 0, 0, 0]), jgh, jgh, jgh, jgh, jgh, jgh, jgh, jgh, (100, [], jS0), jgh, jgh, jgh, jgh, jgh, jgh, jgh]) := by
  refine jT_xaload_n (v := (4, 0)) (pcN := 1) jI_252_0 rfl rfl rfl ?_
  refine jT_xiload_n (v := (0, 0)) (pcN := 2) jI_252_1 rfl rfl rfl ?_
  refine jT_fR [] 24 (y := 238) (pcN := 5) (dC := 1) (bc1 := 0) (bc2 := 0) (c1 := 0) (c2 := 0) (as := [(0, 0)]) (asC := [(0, 0)]) (LN := [(0, (4, 0)), (1, (0, 0)), (2, (0, x2)), (3, (0, x3))]) (stN := [(4, 0)]) (hsC := []) (v := (0, 1)) (st2 := [(0, 1), (4, 0)]) (jA_238_338 (d := 0)) (by rfl) (by rfl) (by decide +kernel) (by rfl) (by rfl) (by omega) (by omega) (by omega) (by omega) rfl ?_
  refine jT_xifF (t := 19) (pcN := 8) jI_252_5 rfl (by decide +kernel) rfl rfl ?_
  refine jT_xiload_n (v := (0, x3)) (pcN := 9) jI_252_8 rfl rfl rfl ?_
  refine jT_fR [] 24 (y := 188) (pcN := 12) (dC := 1) (bc1 := 0) (bc2 := 0) (c1 := 0) (c2 := 0) (as := [(0, x3)]) (asC := [(0, x3)]) (LN := [(0, (4, 0)), (1, (0, 0)), (2, (0, x2)), (3, (0, x3))]) (stN := [(4, 0)]) (hsC := []) (v := (0, 1)) (st2 := [(0, 1), (4, 0)]) (jA_188_37 (d := 0) (by omega)) (by rfl) (by rfl) (by decide +kernel) (by rfl) (by rfl) (by omega) (by omega) (by omega) (by omega) rfl ?_
  refine jT_xifF (t := 19) (pcN := 15) jI_252_12 rfl (by decide +kernel) rfl rfl ?_
  refine jT_xiconst (k := 1) (pcN := 16) jI_252_15 rfl ?_
  refine jT_xgoto (pcN := 20) jI_252_16 rfl ?_
  refine jT_fR [0, 1, 2, 3, 4, 5, 6, 7, 8, 9, 10, 11, 12, 13, 14, 15] 24 (y := 190) (pcN := 23) (dC := 1) (bc1 := 0) (bc2 := 0) (c1 := 0) (c2 := 0) (as := [(4, 0), (0, 1)]) (asC := [(4, 0), (0, 1)]) (LN := [(0, (4, 0)), (1, (0, 0)), (2, (0, x2)), (3, (0, x3))]) (stN := []) (hsC := jpA_22) (v := (0, 0)) (st2 := [(0, 0)]) (jA_190_39 (d := 0)) (by rfl) (by rfl) (by decide +kernel) (by rfl) (by rfl) (by omega) (by omega) (by omega) (by omega) rfl ?_
  refine jT_xifF (t := 45) (pcN := 26) jI_252_23 rfl (by decide +kernel) rfl rfl ?_
  refine jT_xaload_n (v := (4, 0)) (pcN := 27) jI_252_26 rfl rfl rfl ?_
  refine jT_xiload_n (v := (0, x2)) (pcN := 28) jI_252_27 rfl rfl rfl ?_
  refine jT_xi2l (x := x2) (z := x2) (pcN := 29) jI_252_28 rfl (jw_idd (by omega) (by omega)) rfl ?_
  refine jT_adv 2 (pcN := 35) (LN := [(0, (4, 0)), (1, (0, 0)), (2, (0, x2)), (3, (0, x3))]) (stN := [(1, 200), (1, (-200)), (1, x2), (4, 0)]) (hsN := jpA_248) (c1 := 0) (s1 := 0) (c2 := 0) (s2 := 0) (by exact rfl) ?_ (by omega) (by omega)
  refine jT_fR [] 24 (y := 189) (pcN := 38) (dC := 0) (bc1 := 0) (bc2 := 0) (c1 := 0) (c2 := 0) (as := [(1, x2), (1, (-200)), (1, 200)]) (asC := [(1, x2), (1, (-200)), (1, 200)]) (LN := [(0, (4, 0)), (1, (0, 0)), (2, (0, x2)), (3, (0, x3))]) (stN := [(4, 0)]) (hsC := []) (v := (0, 1)) (st2 := [(0, 1), (4, 0)]) (jT_in_ok (d := 0) (v := x2) (lo := (-200)) (hi := 200) (by omega) (by omega) (by omega) (by omega) (by omega)) (by rfl) (by rfl) (by decide +kernel) (by rfl) (by rfl) (by omega) (by omega) (by omega) (by omega) rfl ?_
  refine jT_xiconst (k := 2) (pcN := 39) jI_252_38 rfl ?_
  refine jT_fR [0] 24 (y := 191) (pcN := 42) (dC := 0) (bc1 := 0) (bc2 := 0) (c1 := 0) (c2 := 0) (as := [(4, 0), (0, 1), (0, 2)]) (asC := [(4, 0), (0, 1), (0, 2)]) (LN := [(0, (4, 0)), (1, (0, 0)), (2, (0, x2)), (3, (0, x3))]) (stN := []) (hsC := [jgh]) (v := (0, 0)) (st2 := [(0, 0)]) (jA_191_49 (d := 0)) (by rfl) (by rfl) (by decide +kernel) (by rfl) (by rfl) (by omega) (by omega) (by omega) (by omega) rfl ?_
  refine jT_xifT (pcN := 47) jI_252_42 rfl (by decide +kernel) rfl ?_
  refine jT_xiload_n (v := (0, x2)) (pcN := 48) jI_252_47 rfl rfl rfl ?_
  refine jT_xaload_n (v := (4, 0)) (pcN := 49) jI_252_48 rfl rfl rfl ?_
  refine jT_xiload_n (v := (0, 0)) (pcN := 50) jI_252_49 rfl rfl rfl ?_
  refine jT_fR [0, 1, 2, 3, 4, 5, 6, 7, 8, 9, 10, 11, 12, 13, 14, 15] 24 (y := 245) (pcN := 53) (dC := 0) (bc1 := 0) (bc2 := 0) (c1 := 0) (c2 := 0) (as := [(4, 0), (0, 0)]) (asC := [(4, 0), (0, 0)]) (LN := [(0, (4, 0)), (1, (0, 0)), (2, (0, x2)), (3, (0, x3))]) (stN := [(0, x2)]) (hsC := jpA_1519) (v := (0, 1)) (st2 := [(0, 1), (0, x2)]) (jA_245_339 (d := 0)) (by rfl) (by rfl) (by decide +kernel) (by rfl) (by rfl) (by omega) (by omega) (by omega) (by omega) rfl ?_
  refine jT_fR [] 24 (y := 375) (pcN := 56) (dC := 0) (bc1 := 0) (bc2 := 0) (c1 := 0) (c2 := 0) (as := [(0, x2), (0, 1)]) (asC := [(0, x2), (0, 1)]) (LN := [(0, (4, 0)), (1, (0, 0)), (2, (0, x2)), (3, (0, x3))]) (stN := []) (hsC := []) (v := (0, x2 % 1)) (st2 := [(0, x2 % 1)]) (jT_fmI1 (d := 0) (x := x2) (by omega)) (by rfl) (by rfl) (by decide +kernel) (by rfl) (by rfl) (by omega) (by omega) (by omega) (by omega) rfl ?_
  refine jT_eq (LN := [(0, (4, 0)), (1, (0, 0)), (2, (0, x2)), (3, (0, x3))]) (stN := [(0, 0)]) (hsN := [jzA_21, (100, [], jS0), (100, [], []), jzA_196, jzA_197, jgh, jgh, (101, [], [0, 0, 0, 0, 0, 0]), jgh, jgh, jgh, jgh, jgh, jgh, jgh, jgh, (100, [], (List.replicate 1613 0)), jgh, jgh, jgh, jgh, jgh, jgh, jgh]) (rfl) (by simp only [List.cons.injEq, Prod.mk.injEq, and_true, true_and] <;> ((try unfold jw); (try unfold jwl); omega)) (rfl) ?_
  refine jT_xistore (v := (0, 0)) (LN := [(4, (0, 0)), (0, (4, 0)), (1, (0, 0)), (2, (0, x2)), (3, (0, x3))]) (pcN := 58) jI_252_56 rfl rfl rfl rfl ?_
  refine jT_xaload_n (v := (4, 0)) (pcN := 59) jI_252_58 rfl rfl rfl ?_
  refine jT_xaload_n (v := (4, 0)) (pcN := 60) jI_252_59 rfl rfl rfl ?_
  refine jT_xgetf (a := 0) (t := 1) (ci := 14) (fi := 1) (c := jzA_21) (v := (4, 1)) (pcN := 63) jI_252_60 rfl rfl rfl rfl rfl rfl rfl ?_
  refine jT_xiload_n (v := (0, 0)) (pcN := 64) jI_252_63 rfl rfl rfl ?_
  refine jT_xiload (v := (0, 0)) (pcN := 66) jI_252_64 rfl rfl rfl ?_
  refine jT_fR [] 24 (y := 242) (pcN := 69) (dC := 0) (bc1 := 0) (bc2 := 0) (c1 := 0) (c2 := 0) (as := [(0, 0), (0, 0)]) (asC := [(0, 0), (0, 0)]) (LN := [(4, (0, 0)), (0, (4, 0)), (1, (0, 0)), (2, (0, x2)), (3, (0, x3))]) (stN := [(4, 1), (4, 0)]) (hsC := []) (v := (0, 57)) (st2 := [(0, 57), (4, 1), (4, 0)]) (jA_242_340 (d := 0)) (by rfl) (by rfl) (by decide +kernel) (by rfl) (by rfl) (by omega) (by omega) (by omega) (by omega) rfl ?_
  refine jT_fR [0, 1, 2, 3, 4, 5, 6, 7, 8, 9, 10, 11, 12, 13, 14, 15] 24 (y := 203) (pcN := 72) (dC := 0) (bc1 := 0) (bc2 := 0) (c1 := 0) (c2 := 0) (as := [(4, 0), (4, 1), (0, 57)]) (asC := [(4, 0), (4, 1), (0, 57)]) (LN := [(4, (0, 0)), (0, (4, 0)), (1, (0, 0)), (2, (0, x2)), (3, (0, x3))]) (stN := []) (hsC := jpA_130) (v := (9, 0)) (st2 := []) (jA_203_344 (d := 0)) (by rfl) (by rfl) (by decide +kernel) (by rfl) (by rfl) (by omega) (by omega) (by omega) (by omega) rfl ?_
  refine jT_xaload_n (v := (4, 0)) (pcN := 73) jI_252_72 rfl rfl rfl ?_
  refine jT_xgetf (a := 0) (t := 1) (ci := 14) (fi := 9) (c := jzA_21) (v := (4, 7)) (pcN := 76) jI_252_73 rfl rfl rfl rfl rfl rfl rfl ?_
  refine jT_xiconst (k := 0) (pcN := 77) jI_252_76 rfl ?_
  refine jT_adv 1 (pcN := 78) (LN := [(4, (0, 0)), (0, (4, 0)), (1, (0, 0)), (2, (0, x2)), (3, (0, x3))]) (stN := [(0, 0), (4, 7), (0, 0), (4, 7)]) (hsN := jpA_248) (c1 := 0) (s1 := 0) (c2 := 0) (s2 := 0) (by exact rfl) ?_ (by omega) (by omega)
  refine jT_lald (x := 0) (a := 7) (j := 0) (fs := []) (X := [0, 0, 0, 0, 0, 0]) jI_252_78 rfl rfl rfl rfl ?_
  refine jT_eq (LN := [(4, (0, 0)), (0, (4, 0)), (1, (0, 0)), (2, (0, x2)), (3, (0, x3))]) (stN := [(1, 0), (0, 0), (4, 7)]) (hsN := jpA_248) rfl rfl rfl ?_
  refine jT_xaload_n (v := (4, 0)) (pcN := 80) jI_252_79 rfl rfl rfl ?_
  refine jT_xgetf (a := 0) (t := 1) (ci := 14) (fi := 10) (c := jzA_21) (v := (1, 1)) (pcN := 83) jI_252_80 rfl rfl rfl rfl rfl rfl rfl ?_
  refine jT_xiload_n (v := (0, x2)) (pcN := 84) jI_252_83 rfl rfl rfl ?_
  refine jT_xaload_n (v := (4, 0)) (pcN := 85) jI_252_84 rfl rfl rfl ?_
  refine jT_xiload_n (v := (0, 0)) (pcN := 86) jI_252_85 rfl rfl rfl ?_
  refine jT_fR [0, 1, 2, 3, 4, 5, 6, 7, 8, 9, 10, 11, 12, 13, 14, 15] 24 (y := 245) (pcN := 89) (dC := 0) (bc1 := 0) (bc2 := 0) (c1 := 0) (c2 := 0) (as := [(4, 0), (0, 0)]) (asC := [(4, 0), (0, 0)]) (LN := [(4, (0, 0)), (0, (4, 0)), (1, (0, 0)), (2, (0, x2)), (3, (0, x3))]) (stN := [(0, x2), (1, 1), (1, 0), (0, 0), (4, 7)]) (hsC := jpA_1519) (v := (0, 1)) (st2 := [(0, 1), (0, x2), (1, 1), (1, 0), (0, 0), (4, 7)]) (jA_245_339 (d := 0)) (by rfl) (by rfl) (by decide +kernel) (by rfl) (by rfl) (by omega) (by omega) (by omega) (by omega) rfl ?_
  refine jT_fR [] 24 (y := 376) (pcN := 92) (dC := 0) (bc1 := 0) (bc2 := 0) (c1 := 0) (c2 := 0) (as := [(0, x2), (0, 1)]) (asC := [(0, x2), (0, 1)]) (LN := [(4, (0, 0)), (0, (4, 0)), (1, (0, 0)), (2, (0, x2)), (3, (0, x3))]) (stN := [(1, 1), (1, 0), (0, 0), (4, 7)]) (hsC := []) (v := (0, x2 / 1)) (st2 := [(0, x2 / 1), (1, 1), (1, 0), (0, 0), (4, 7)]) (jT_fdI1 (d := 0) (x := x2) (by omega)) (by rfl) (by rfl) (by decide +kernel) (by rfl) (by rfl) (by omega) (by omega) (by omega) (by omega) rfl ?_
  refine jT_eq (LN := [(4, (0, 0)), (0, (4, 0)), (1, (0, 0)), (2, (0, x2)), (3, (0, x3))]) (stN := [(0, x2), (1, 1), (1, 0), (0, 0), (4, 7)]) (hsN := [jzA_21, (100, [], jS0), (100, [], []), jzA_196, jzA_197, jgh, jgh, (101, [], [0, 0, 0, 0, 0, 0]), jgh, jgh, jgh, jgh, jgh, jgh, jgh, jgh, (100, [], (List.replicate 1613 0)), jgh, jgh, jgh, jgh, jgh, jgh, jgh]) (rfl) (by simp only [List.cons.injEq, Prod.mk.injEq, and_true, true_and] <;> ((try unfold jw); (try unfold jwl); omega)) (rfl) ?_
  refine jT_xi2l (x := x2) (z := x2) (pcN := 93) jI_252_92 rfl (jw_idd (by omega) (by omega)) rfl ?_
  refine jT_xlmul (x := 1) (y := x2) (z := x2) (pcN := 94) jI_252_93 rfl (by omega) rfl ?_
  refine jT_xladd (x := 0) (y := x2) (z := x2) (pcN := 95) jI_252_94 rfl (by omega) rfl ?_
  refine jT_adv 1 (pcN := 96) (LN := [(4, (0, 0)), (0, (4, 0)), (1, (0, 0)), (2, (0, x2)), (3, (0, x3))]) (stN := []) (hsN := [jzA_21, (100, [], jS0), (100, [], []), jzA_196, jzA_197, jgh, jgh, (101, [], [x2, 0, 0, 0, 0, 0]), jgh, jgh, jgh, jgh, jgh, jgh, jgh, jgh, (100, [], (List.replicate 1613 0)), jgh, jgh, jgh, jgh, jgh, jgh, jgh]) (c1 := 0) (s1 := 0) (c2 := 0) (s2 := 0) (by exact rfl) ?_ (by omega) (by omega)
  refine jT_xaload_n (v := (4, 0)) (pcN := 97) jI_252_96 rfl rfl rfl ?_
  refine jT_xaload_n (v := (4, 0)) (pcN := 98) jI_252_97 rfl rfl rfl ?_
  refine jT_callA [0, 1, 2, 3, 4, 5, 6, 7, 8, 9, 10, 11, 12, 13, 14, 15] (y := 205) (pcN := 101) (dC := 1) (bc1 := 0) (bc2 := 0) (c1 := 0) (c2 := 0) (as := [(4, 0)]) (asC := [(4, 0)]) (LN := [(4, (0, 0)), (0, (4, 0)), (1, (0, 0)), (2, (0, x2)), (3, (0, x3))]) (stN := [(4, 0)]) (hsC := [jzA_21, jgh, jgh, jgh, jgh, jgh, jgh, (101, [], [x2, 0, 0, 0, 0, 0]), jgh, jgh, jgh, jgh, jgh, jgh, jgh, jgh]) (ex := []) (v := (0, 1)) (st2 := [(0, 1), (4, 0)]) (hs2 := [jzA_21, (100, [], jS0), (100, [], []), jzA_196, jzA_197, jgh, jgh, (101, [], [x2, 0, 0, 0, 0, 0]), jgh, jgh, jgh, jgh, jgh, jgh, jgh, jgh, (100, [], (List.replicate 1613 0)), jgh, jgh, jgh, jgh, jgh, jgh, jgh]) (jA_205_551 (d := 0) (by omega)) (by rfl) (by rfl) (by rfl) (by rfl) ⟨rfl, rfl, rfl, rfl, rfl, rfl, rfl, rfl, rfl, rfl, rfl, rfl, rfl, rfl, rfl, rfl, trivial⟩ (by rfl) (by rfl) (by omega) (by show 24 ≤ 24; omega) (by omega) (by omega) rfl rfl ?_
  refine jT_xiconst (k := 3) (pcN := 102) jI_252_101 rfl ?_
  refine jT_callA [0] (y := 191) (pcN := 105) (dC := 0) (bc1 := 0) (bc2 := 0) (c1 := 0) (c2 := 0) (as := [(4, 0), (0, 1), (0, 3)]) (asC := [(4, 0), (0, 1), (0, 3)]) (LN := [(4, (0, 0)), (0, (4, 0)), (1, (0, 0)), (2, (0, x2)), (3, (0, x3))]) (stN := []) (hsC := [jgh]) (ex := []) (v := (0, 0)) (st2 := [(0, 0)]) (hs2 := [jzA_21, (100, [], jS0), (100, [], []), jzA_196, jzA_197, jgh, jgh, (101, [], [x2, 0, 0, 0, 0, 0]), jgh, jgh, jgh, jgh, jgh, jgh, jgh, jgh, (100, [], (List.replicate 1613 0)), jgh, jgh, jgh, jgh, jgh, jgh, jgh]) (jA_191_117 (d := 0)) (by rfl) (by rfl) (by rfl) (by rfl) ⟨rfl, trivial⟩ (by rfl) (by rfl) (by omega) (by show 24 ≤ 24; omega) (by omega) (by omega) rfl rfl ?_
  refine jT_xifT (pcN := 110) jI_252_105 rfl (by decide +kernel) rfl ?_
  refine jT_xaload_n (v := (4, 0)) (pcN := 111) jI_252_110 rfl rfl rfl ?_
  refine jT_callB [0, 1, 2, 3, 4, 5, 6, 7, 8, 9, 10, 11, 12, 13, 14, 15, 16, 17, 18, 19, 20, 21, 22, 23] (y := 195) (pcN := 114) (dC := 0) (bc1 := 0) (bc2 := 0) (c1 := 0) (c2 := 0) (as := [(4, 0)]) (asC := [(4, 0)]) (LN := [(4, (0, 0)), (0, (4, 0)), (1, (0, 0)), (2, (0, x2)), (3, (0, x3))]) (stN := []) (hsC := jpA_198) (hsD := jpA_202) (v := (9, 0)) (st2 := []) (hs2 := [jzA_200, (100, [], jS0), (100, [], []), jzA_196, jzA_201, jgh, jgh, (101, [], [x2, 0, 0, 0, 0, 0]), jgh, jgh, jgh, jgh, jgh, jgh, jgh, jgh, (100, [], jS0), jgh, jgh, jgh, jgh, jgh, jgh, jgh]) (jA_195_50 (d := 0)) (by rfl) (by rfl) (by rfl) (by rfl) ⟨rfl, rfl, rfl, rfl, rfl, rfl, rfl, rfl, rfl, rfl, rfl, rfl, rfl, rfl, rfl, rfl, rfl, rfl, rfl, rfl, rfl, rfl, rfl, rfl, trivial⟩ (by rfl) (by rfl) (by omega) (by show 24 ≤ 24; omega) (by omega) (by omega) rfl rfl ?_
  refine jT_xaload_n (v := (4, 0)) (pcN := 115) jI_252_114 rfl rfl rfl ?_
  refine jT_xiload_n (v := (0, x3)) (pcN := 116) jI_252_115 rfl rfl rfl ?_
  refine jT_callB [0, 1, 2, 3, 4, 5, 6, 7, 8, 9, 10, 11, 12, 13, 14, 15] (y := 196) (pcN := 119) (dC := 1) (bc1 := 0) (bc2 := 0) (c1 := 0) (c2 := 0) (as := [(4, 0), (0, x3)]) (asC := [(4, 0), (0, x3)]) (LN := [(4, (0, 0)), (0, (4, 0)), (1, (0, 0)), (2, (0, x2)), (3, (0, x3))]) (stN := []) (hsC := [jzA_200, (100, [], jS0), jgh, jgh, jgh, jgh, jgh, (101, [], [x2, 0, 0, 0, 0, 0]), jgh, jgh, jgh, jgh, jgh, jgh, jgh, jgh]) (hsD := [jzA_200, (100, [], ((((((((((((((jS0).set ((7 * x3).toNat) x2)).set ((7 * x3 + 1).toNat) 0)).set ((7 * x3 + 2).toNat) 0)).set ((7 * x3 + 3).toNat) 0)).set ((7 * x3 + 4).toNat) 0)).set ((7 * x3 + 5).toNat) 0)).set ((7 * x3 + 6).toNat) 1)), jgh, jgh, jgh, jgh, jgh, (101, [], [x2, 0, 0, 0, 0, 0]), jgh, jgh, jgh, jgh, jgh, jgh, jgh, jgh]) (v := (0, 1)) (st2 := [(0, 1)]) (hs2 := [jzA_200, (100, [], ((((((((((((((jS0).set ((7 * x3).toNat) x2)).set ((7 * x3 + 1).toNat) 0)).set ((7 * x3 + 2).toNat) 0)).set ((7 * x3 + 3).toNat) 0)).set ((7 * x3 + 4).toNat) 0)).set ((7 * x3 + 5).toNat) 0)).set ((7 * x3 + 6).toNat) 1)), (100, [], []), jzA_196, jzA_201, jgh, jgh, (101, [], [x2, 0, 0, 0, 0, 0]), jgh, jgh, jgh, jgh, jgh, jgh, jgh, jgh, (100, [], jS0), jgh, jgh, jgh, jgh, jgh, jgh, jgh]) (jA_196_553 (d := 0) (by omega) (by omega)) (by rfl) (by rfl) (by rfl) (by rfl) ⟨rfl, rfl, rfl, rfl, rfl, rfl, rfl, rfl, rfl, rfl, rfl, rfl, rfl, rfl, rfl, rfl, trivial⟩ (by rfl) (by rfl) (by omega) (by show 24 ≤ 24; omega) (by omega) (by omega) rfl rfl ?_
  refine jT_adv 1 (pcN := 120) (LN := [(4, (0, 0)), (0, (4, 0)), (1, (0, 0)), (2, (0, x2)), (3, (0, x3))]) (stN := []) (hsN := [jzA_200, (100, [], ((((((((((((((jS0).set ((7 * x3).toNat) x2)).set ((7 * x3 + 1).toNat) 0)).set ((7 * x3 + 2).toNat) 0)).set ((7 * x3 + 3).toNat) 0)).set ((7 * x3 + 4).toNat) 0)).set ((7 * x3 + 5).toNat) 0)).set ((7 * x3 + 6).toNat) 1)), (100, [], []), jzA_196, jzA_201, jgh, jgh, (101, [], [x2, 0, 0, 0, 0, 0]), jgh, jgh, jgh, jgh, jgh, jgh, jgh, jgh, (100, [], jS0), jgh, jgh, jgh, jgh, jgh, jgh, jgh]) (c1 := 0) (s1 := 0) (c2 := 0) (s2 := 0) (by exact rfl) ?_ (by omega) (by omega)
  refine jT_xiload (v := (0, 0)) (pcN := 122) jI_252_120 rfl rfl rfl ?_
  exact jT_ret rfl (by decide) (by show 24 ≤ 24; decide) (by omega) (by omega) ⟨rfl, rfl, rfl⟩
theorem jA_116_555 {xs : List Int} {d : Nat} {x2 : Int} (h_x2 : 0 ≤ x2 ∧ x2 ≤ 200) : jT xs d 116 1 0 [(0, (4, 0)), (1, (0, x2)), (2, (0, (-200))), (3, (0, 200))] [] [jgh] 0 0 (fun k v hsN => k = 0 ∧ v = (9, 0) ∧ hsN = [jgh] ++ []) := by
  refine jT_xiload_n (v := (0, x2)) (pcN := 1) jI_116_0 rfl rfl rfl ?_
  refine jT_xiload_n (v := (0, (-200))) (pcN := 2) jI_116_1 rfl rfl rfl ?_
  refine jT_icF (a := x2) (b := (-200)) (t := 10) (by rfl) (by rfl) (by rfl) (jw_idd (by omega) (by omega)) (jw_idd (by omega) (by omega)) (by simp only [jcP] <;> omega) ?_
  refine jT_xiload_n (v := (0, x2)) (pcN := 6) jI_116_5 rfl rfl rfl ?_
  refine jT_xiload_n (v := (0, 200)) (pcN := 7) jI_116_6 rfl rfl rfl ?_
  refine jT_icT (a := x2) (b := 200) (t := 21) (by rfl) (by rfl) (by rfl) (jw_idd (by omega) (by omega)) (jw_idd (by omega) (by omega)) (by simp only [jcP] <;> omega) ?_
  exact jT_ret rfl (by decide) (by show 1 ≤ 1; decide) (by omega) (by omega) ⟨rfl, rfl, rfl⟩
theorem jA_97_556 {xs : List Int} {d : Nat} {x2 : Int} (h_x2 : 0 ≤ x2 ∧ x2 ≤ 200) : jT xs d 97 1 0 [(0, (4, 0)), (1, (1, 1))] [] [(101, [], [x2, 0, 0, 0, 0, 0])] 0 0 (fun k v hsN => k = 0 ∧ v = (1, 1) ∧ hsN = [(101, [], [x2, 0, 0, 0, 0, 0])] ++ []) := by
  refine jT_xlload_n (v := (1, 1)) (pcN := 1) jI_97_0 rfl rfl rfl ?_
  refine jT_xlconst (z := 1) (pcN := 2) jI_97_1 rfl rfl ?_
  refine jT_lcmp (a := 1) (b := 1) (z := 0) (by rfl) (by rfl) (by decide +kernel) (by decide +kernel) (by decide) ?_
  refine jT_xifT (pcN := 10) jI_97_3 rfl (by decide +kernel) rfl ?_
  refine jT_xlload_n (v := (1, 1)) (pcN := 11) jI_97_10 rfl rfl rfl ?_
  refine jT_xlstore_n (v := (1, 1)) (LN := [(3, (1, 1)), (0, (4, 0)), (1, (1, 1))]) (pcN := 12) jI_97_11 rfl rfl rfl rfl ?_
  refine jT_xiconst (k := 0) (pcN := 13) jI_97_12 rfl ?_
  refine jT_xistore (v := (0, 0)) (LN := [(5, (0, 0)), (3, (1, 1)), (0, (4, 0)), (1, (1, 1))]) (pcN := 15) jI_97_13 rfl rfl rfl rfl ?_
  refine jT_xiload (v := (0, 0)) (pcN := 17) jI_97_15 rfl rfl rfl ?_
  refine jT_xaload_n (v := (4, 0)) (pcN := 18) jI_97_17 rfl rfl rfl ?_
  refine jT_adv 1 (pcN := 19) (LN := [(5, (0, 0)), (3, (1, 1)), (0, (4, 0)), (1, (1, 1))]) (stN := [(0, 6), (0, 0)]) (hsN := [(101, [], [x2, 0, 0, 0, 0, 0])]) (c1 := 0) (s1 := 0) (c2 := 0) (s2 := 0) (by exact rfl) ?_ (by omega) (by omega)
  refine jT_xicF (t := 43) (pcN := 22) jI_97_19 rfl (by decide +kernel) rfl rfl ?_
  refine jT_xlload_n (v := (1, 1)) (pcN := 23) jI_97_22 rfl rfl rfl ?_
  refine jT_xlconst (z := 1) (pcN := 24) jI_97_23 rfl rfl ?_
  refine jT_lcmp (a := 1) (b := 1) (z := 0) (by rfl) (by rfl) (by decide +kernel) (by decide +kernel) (by decide) ?_
  refine jT_xifT (pcN := 43) jI_97_25 rfl (by decide +kernel) rfl ?_
  refine jT_xlload_n (v := (1, 1)) (pcN := 44) jI_97_43 rfl rfl rfl ?_
  refine jT_xlconst (z := 1) (pcN := 45) jI_97_44 rfl rfl ?_
  refine jT_lcmp (a := 1) (b := 1) (z := 0) (by rfl) (by rfl) (by decide +kernel) (by decide +kernel) (by decide) ?_
  refine jT_xifF (t := 61) (pcN := 49) jI_97_46 rfl (by decide +kernel) rfl rfl ?_
  refine jT_xlload_n (v := (1, 1)) (pcN := 50) jI_97_49 rfl rfl rfl ?_
  refine jT_xlconst (z := 1) (pcN := 51) jI_97_50 rfl rfl ?_
  refine jT_lcmp (a := 1) (b := 1) (z := 0) (by rfl) (by rfl) (by decide +kernel) (by decide +kernel) (by decide) ?_
  refine jT_xifT (pcN := 59) jI_97_52 rfl (by decide +kernel) rfl ?_
  refine jT_xlload_n (v := (1, 1)) (pcN := 60) jI_97_59 rfl rfl rfl ?_
  exact jT_ret rfl (by decide) (by show 1 ≤ 1; decide) (by omega) (by omega) ⟨rfl, rfl, rfl⟩
theorem jA_9_557 {xs : List Int} {d : Nat} {x2 : Int} (h_x2 : 0 ≤ x2 ∧ x2 ≤ 200) : jT xs (d + 1) 9 2 0 [(0, (4, 0)), (1, (4, 1)), (2, (1, 1))] [] [(4, [(4, (-1)), (1, 0)], []), (101, [], [x2, 0, 0, 0, 0, 0])] 0 0 (fun k v hsN => k = 0 ∧ v = (9, 0) ∧ hsN = [(4, [(4, 1), (1, 1)], []), (101, [], [x2, 0, 0, 0, 0, 0])]) := by
  refine jT_xaload_n (v := (4, 0)) (pcN := 1) jI_9_0 rfl rfl rfl ?_
  refine jT_adv 1 (pcN := 4) (LN := [(0, (4, 0)), (1, (4, 1)), (2, (1, 1))]) (stN := []) (hsN := [(4, [(4, (-1)), (1, 0)], []), (101, [], [x2, 0, 0, 0, 0, 0])]) (c1 := 0) (s1 := 0) (c2 := 0) (s2 := 0) (by exact rfl) ?_ (by omega) (by omega)
  refine jT_xaload_n (v := (4, 0)) (pcN := 5) jI_9_4 rfl rfl rfl ?_
  refine jT_xaload_n (v := (4, 1)) (pcN := 6) jI_9_5 rfl rfl rfl ?_
  refine jT_adv 1 (pcN := 9) (LN := [(0, (4, 0)), (1, (4, 1)), (2, (1, 1))]) (stN := []) (hsN := [(4, [(4, 1), (1, 0)], []), (101, [], [x2, 0, 0, 0, 0, 0])]) (c1 := 0) (s1 := 0) (c2 := 0) (s2 := 0) (by exact rfl) ?_ (by omega) (by omega)
  refine jT_xaload_n (v := (4, 0)) (pcN := 10) jI_9_9 rfl rfl rfl ?_
  refine jT_xaload_n (v := (4, 1)) (pcN := 11) jI_9_10 rfl rfl rfl ?_
  refine jT_xlload_n (v := (1, 1)) (pcN := 12) jI_9_11 rfl rfl rfl ?_
  refine jT_callA [1] (y := 97) (pcN := 15) (dC := 0) (bc1 := 0) (bc2 := 0) (c1 := 0) (c2 := 0) (as := [(4, 1), (1, 1)]) (asC := [(4, 0), (1, 1)]) (LN := [(0, (4, 0)), (1, (4, 1)), (2, (1, 1))]) (stN := [(4, 0)]) (hsC := [(101, [], [x2, 0, 0, 0, 0, 0])]) (ex := []) (v := (1, 1)) (st2 := [(1, 1), (4, 0)]) (hs2 := [(4, [(4, 1), (1, 0)], []), (101, [], [x2, 0, 0, 0, 0, 0])]) (jA_97_556 (d := 0) (by omega)) (by rfl) (by rfl) (by rfl) (by rfl) ⟨rfl, trivial⟩ (by rfl) (by rfl) (by omega) (by show 2 ≤ 2; omega) (by omega) (by omega) rfl rfl ?_
  refine jT_adv 1 (pcN := 18) (LN := [(0, (4, 0)), (1, (4, 1)), (2, (1, 1))]) (stN := []) (hsN := [(4, [(4, 1), (1, 1)], []), (101, [], [x2, 0, 0, 0, 0, 0])]) (c1 := 0) (s1 := 0) (c2 := 0) (s2 := 0) (by exact rfl) ?_ (by omega) (by omega)
  exact jT_ret rfl (by decide) (by show 2 ≤ 2; decide) (by omega) (by omega) ⟨rfl, rfl, rfl⟩
theorem jA_10_558 {xs : List Int} {d : Nat} {x2 : Int} (h_x2 : 0 ≤ x2 ∧ x2 ≤ 200) : jT xs (d + 2) 10 2 0 [(0, (4, 0)), (1, (1, 1)), (3, (1, 1)), (5, (1, x2))] [] [(4, [(4, 1), (1, 1)], []), (101, [], [0, 0, 0, 0, 0, 0])] 2 8 (fun k v hsN => k = 0 ∧ v = (4, 3) ∧ hsN = [(4, [(4, 1), (1, 1)], []), (101, [], [0, 0, 0, 0, 0, 0])] ++ [(101, [], [x2, 0, 0, 0, 0, 0]), (4, [(4, 2), (1, 1)], [])]) := by
  refine jT_xbipush (k := 6) (pcN := 2) jI_10_0 (by decide) rfl ?_
  refine jT_adv 1 (pcN := 4) (LN := [(0, (4, 0)), (1, (1, 1)), (3, (1, 1)), (5, (1, x2))]) (stN := [(4, 2)]) (hsN := [(4, [(4, 1), (1, 1)], []), (101, [], [0, 0, 0, 0, 0, 0]), (101, [], [0, 0, 0, 0, 0, 0])]) (c1 := 1) (s1 := 6) (c2 := 1) (s2 := 2) (by exact rfl) ?_ (by omega) (by omega)
  refine jT_xastore (v := (4, 2)) (LN := [(7, (4, 2)), (0, (4, 0)), (1, (1, 1)), (3, (1, 1)), (5, (1, x2))]) (pcN := 6) jI_10_4 rfl rfl rfl rfl ?_
  refine jT_xiconst (k := 0) (pcN := 7) jI_10_6 rfl ?_
  refine jT_xistore (v := (0, 0)) (LN := [(8, (0, 0)), (7, (4, 2)), (0, (4, 0)), (1, (1, 1)), (3, (1, 1)), (5, (1, x2))]) (pcN := 9) jI_10_7 rfl rfl rfl rfl ?_
  refine jT_xiload (v := (0, 0)) (pcN := 11) jI_10_9 rfl rfl rfl ?_
  refine jT_xbipush (k := 6) (pcN := 13) jI_10_11 (by decide) rfl ?_
  refine jT_xicF (t := 36) (pcN := 16) jI_10_13 rfl (by decide +kernel) rfl rfl ?_
  refine jT_xaload (v := (4, 2)) (pcN := 18) jI_10_16 rfl rfl rfl ?_
  refine jT_xiload (v := (0, 0)) (pcN := 20) jI_10_18 rfl rfl rfl ?_
  refine jT_xaload_n (v := (4, 0)) (pcN := 21) jI_10_20 rfl rfl rfl ?_
  refine jT_xgetf (a := 0) (t := 1) (ci := 4) (fi := 0) (c := (4, [(4, 1), (1, 1)], [])) (v := (4, 1)) (pcN := 24) jI_10_21 rfl rfl rfl rfl rfl rfl rfl ?_
  refine jT_xiload (v := (0, 0)) (pcN := 26) jI_10_24 rfl rfl rfl ?_
  refine jT_lald (x := 0) (a := 1) (j := 0) (fs := []) (X := [0, 0, 0, 0, 0, 0]) jI_10_26 rfl rfl rfl rfl ?_
  refine jT_eq (LN := [(8, (0, 0)), (7, (4, 2)), (0, (4, 0)), (1, (1, 1)), (3, (1, 1)), (5, (1, x2))]) (stN := [(1, 0), (0, 0), (4, 2)]) (hsN := [(4, [(4, 1), (1, 1)], []), (101, [], [0, 0, 0, 0, 0, 0]), (101, [], [0, 0, 0, 0, 0, 0])]) rfl rfl rfl ?_
  refine jT_xlload_n (v := (1, 1)) (pcN := 28) jI_10_27 rfl rfl rfl ?_
  refine jT_xlmul (x := 0) (y := 1) (z := 0) (pcN := 29) jI_10_28 rfl (by decide) rfl ?_
  refine jT_adv 1 (pcN := 30) (LN := [(8, (0, 0)), (7, (4, 2)), (0, (4, 0)), (1, (1, 1)), (3, (1, 1)), (5, (1, x2))]) (stN := []) (hsN := [(4, [(4, 1), (1, 1)], []), (101, [], [0, 0, 0, 0, 0, 0]), (101, [], [0, 0, 0, 0, 0, 0])]) (c1 := 0) (s1 := 0) (c2 := 1) (s2 := 2) (by exact rfl) ?_ (by omega) (by omega)
  refine jT_xiinc (x := 0) (z := 1) (LN := [(8, (0, 1)), (7, (4, 2)), (0, (4, 0)), (1, (1, 1)), (3, (1, 1)), (5, (1, x2))]) (pcN := 33) jI_10_30 rfl rfl (by decide) rfl rfl ?_
  refine jT_xgoto (pcN := 9) jI_10_33 rfl ?_
  refine jT_xiload (v := (0, 1)) (pcN := 11) jI_10_9 rfl rfl rfl ?_
  refine jT_xbipush (k := 6) (pcN := 13) jI_10_11 (by decide) rfl ?_
  refine jT_xicF (t := 36) (pcN := 16) jI_10_13 rfl (by decide +kernel) rfl rfl ?_
  refine jT_xaload (v := (4, 2)) (pcN := 18) jI_10_16 rfl rfl rfl ?_
  refine jT_xiload (v := (0, 1)) (pcN := 20) jI_10_18 rfl rfl rfl ?_
  refine jT_xaload_n (v := (4, 0)) (pcN := 21) jI_10_20 rfl rfl rfl ?_
  refine jT_xgetf (a := 0) (t := 1) (ci := 4) (fi := 0) (c := (4, [(4, 1), (1, 1)], [])) (v := (4, 1)) (pcN := 24) jI_10_21 rfl rfl rfl rfl rfl rfl rfl ?_
  refine jT_xiload (v := (0, 1)) (pcN := 26) jI_10_24 rfl rfl rfl ?_
  refine jT_lald (x := 0) (a := 1) (j := 1) (fs := []) (X := [0, 0, 0, 0, 0, 0]) jI_10_26 rfl rfl rfl rfl ?_
  refine jT_eq (LN := [(8, (0, 1)), (7, (4, 2)), (0, (4, 0)), (1, (1, 1)), (3, (1, 1)), (5, (1, x2))]) (stN := [(1, 0), (0, 1), (4, 2)]) (hsN := [(4, [(4, 1), (1, 1)], []), (101, [], [0, 0, 0, 0, 0, 0]), (101, [], [0, 0, 0, 0, 0, 0])]) rfl rfl rfl ?_
  refine jT_xlload_n (v := (1, 1)) (pcN := 28) jI_10_27 rfl rfl rfl ?_
  refine jT_xlmul (x := 0) (y := 1) (z := 0) (pcN := 29) jI_10_28 rfl (by decide) rfl ?_
  refine jT_adv 1 (pcN := 30) (LN := [(8, (0, 1)), (7, (4, 2)), (0, (4, 0)), (1, (1, 1)), (3, (1, 1)), (5, (1, x2))]) (stN := []) (hsN := [(4, [(4, 1), (1, 1)], []), (101, [], [0, 0, 0, 0, 0, 0]), (101, [], [0, 0, 0, 0, 0, 0])]) (c1 := 0) (s1 := 0) (c2 := 1) (s2 := 2) (by exact rfl) ?_ (by omega) (by omega)
  refine jT_xiinc (x := 1) (z := 2) (LN := [(8, (0, 2)), (7, (4, 2)), (0, (4, 0)), (1, (1, 1)), (3, (1, 1)), (5, (1, x2))]) (pcN := 33) jI_10_30 rfl rfl (by decide) rfl rfl ?_
  refine jT_xgoto (pcN := 9) jI_10_33 rfl ?_
  refine jT_xiload (v := (0, 2)) (pcN := 11) jI_10_9 rfl rfl rfl ?_
  refine jT_xbipush (k := 6) (pcN := 13) jI_10_11 (by decide) rfl ?_
  refine jT_xicF (t := 36) (pcN := 16) jI_10_13 rfl (by decide +kernel) rfl rfl ?_
  refine jT_xaload (v := (4, 2)) (pcN := 18) jI_10_16 rfl rfl rfl ?_
  refine jT_xiload (v := (0, 2)) (pcN := 20) jI_10_18 rfl rfl rfl ?_
  refine jT_xaload_n (v := (4, 0)) (pcN := 21) jI_10_20 rfl rfl rfl ?_
  refine jT_xgetf (a := 0) (t := 1) (ci := 4) (fi := 0) (c := (4, [(4, 1), (1, 1)], [])) (v := (4, 1)) (pcN := 24) jI_10_21 rfl rfl rfl rfl rfl rfl rfl ?_
  refine jT_xiload (v := (0, 2)) (pcN := 26) jI_10_24 rfl rfl rfl ?_
  refine jT_lald (x := 0) (a := 1) (j := 2) (fs := []) (X := [0, 0, 0, 0, 0, 0]) jI_10_26 rfl rfl rfl rfl ?_
  refine jT_eq (LN := [(8, (0, 2)), (7, (4, 2)), (0, (4, 0)), (1, (1, 1)), (3, (1, 1)), (5, (1, x2))]) (stN := [(1, 0), (0, 2), (4, 2)]) (hsN := [(4, [(4, 1), (1, 1)], []), (101, [], [0, 0, 0, 0, 0, 0]), (101, [], [0, 0, 0, 0, 0, 0])]) rfl rfl rfl ?_
  refine jT_xlload_n (v := (1, 1)) (pcN := 28) jI_10_27 rfl rfl rfl ?_
  refine jT_xlmul (x := 0) (y := 1) (z := 0) (pcN := 29) jI_10_28 rfl (by decide) rfl ?_
  refine jT_adv 1 (pcN := 30) (LN := [(8, (0, 2)), (7, (4, 2)), (0, (4, 0)), (1, (1, 1)), (3, (1, 1)), (5, (1, x2))]) (stN := []) (hsN := [(4, [(4, 1), (1, 1)], []), (101, [], [0, 0, 0, 0, 0, 0]), (101, [], [0, 0, 0, 0, 0, 0])]) (c1 := 0) (s1 := 0) (c2 := 1) (s2 := 2) (by exact rfl) ?_ (by omega) (by omega)
  refine jT_xiinc (x := 2) (z := 3) (LN := [(8, (0, 3)), (7, (4, 2)), (0, (4, 0)), (1, (1, 1)), (3, (1, 1)), (5, (1, x2))]) (pcN := 33) jI_10_30 rfl rfl (by decide) rfl rfl ?_
  refine jT_xgoto (pcN := 9) jI_10_33 rfl ?_
  refine jT_xiload (v := (0, 3)) (pcN := 11) jI_10_9 rfl rfl rfl ?_
  refine jT_xbipush (k := 6) (pcN := 13) jI_10_11 (by decide) rfl ?_
  refine jT_xicF (t := 36) (pcN := 16) jI_10_13 rfl (by decide +kernel) rfl rfl ?_
  refine jT_xaload (v := (4, 2)) (pcN := 18) jI_10_16 rfl rfl rfl ?_
  refine jT_xiload (v := (0, 3)) (pcN := 20) jI_10_18 rfl rfl rfl ?_
  refine jT_xaload_n (v := (4, 0)) (pcN := 21) jI_10_20 rfl rfl rfl ?_
  refine jT_xgetf (a := 0) (t := 1) (ci := 4) (fi := 0) (c := (4, [(4, 1), (1, 1)], [])) (v := (4, 1)) (pcN := 24) jI_10_21 rfl rfl rfl rfl rfl rfl rfl ?_
  refine jT_xiload (v := (0, 3)) (pcN := 26) jI_10_24 rfl rfl rfl ?_
  refine jT_lald (x := 0) (a := 1) (j := 3) (fs := []) (X := [0, 0, 0, 0, 0, 0]) jI_10_26 rfl rfl rfl rfl ?_
  refine jT_eq (LN := [(8, (0, 3)), (7, (4, 2)), (0, (4, 0)), (1, (1, 1)), (3, (1, 1)), (5, (1, x2))]) (stN := [(1, 0), (0, 3), (4, 2)]) (hsN := [(4, [(4, 1), (1, 1)], []), (101, [], [0, 0, 0, 0, 0, 0]), (101, [], [0, 0, 0, 0, 0, 0])]) rfl rfl rfl ?_
  refine jT_xlload_n (v := (1, 1)) (pcN := 28) jI_10_27 rfl rfl rfl ?_
  refine jT_xlmul (x := 0) (y := 1) (z := 0) (pcN := 29) jI_10_28 rfl (by decide) rfl ?_
  refine jT_adv 1 (pcN := 30) (LN := [(8, (0, 3)), (7, (4, 2)), (0, (4, 0)), (1, (1, 1)), (3, (1, 1)), (5, (1, x2))]) (stN := []) (hsN := [(4, [(4, 1), (1, 1)], []), (101, [], [0, 0, 0, 0, 0, 0]), (101, [], [0, 0, 0, 0, 0, 0])]) (c1 := 0) (s1 := 0) (c2 := 1) (s2 := 2) (by exact rfl) ?_ (by omega) (by omega)
  refine jT_xiinc (x := 3) (z := 4) (LN := [(8, (0, 4)), (7, (4, 2)), (0, (4, 0)), (1, (1, 1)), (3, (1, 1)), (5, (1, x2))]) (pcN := 33) jI_10_30 rfl rfl (by decide) rfl rfl ?_
  refine jT_xgoto (pcN := 9) jI_10_33 rfl ?_
  refine jT_xiload (v := (0, 4)) (pcN := 11) jI_10_9 rfl rfl rfl ?_
  refine jT_xbipush (k := 6) (pcN := 13) jI_10_11 (by decide) rfl ?_
  refine jT_xicF (t := 36) (pcN := 16) jI_10_13 rfl (by decide +kernel) rfl rfl ?_
  refine jT_xaload (v := (4, 2)) (pcN := 18) jI_10_16 rfl rfl rfl ?_
  refine jT_xiload (v := (0, 4)) (pcN := 20) jI_10_18 rfl rfl rfl ?_
  refine jT_xaload_n (v := (4, 0)) (pcN := 21) jI_10_20 rfl rfl rfl ?_
  refine jT_xgetf (a := 0) (t := 1) (ci := 4) (fi := 0) (c := (4, [(4, 1), (1, 1)], [])) (v := (4, 1)) (pcN := 24) jI_10_21 rfl rfl rfl rfl rfl rfl rfl ?_
  refine jT_xiload (v := (0, 4)) (pcN := 26) jI_10_24 rfl rfl rfl ?_
  refine jT_lald (x := 0) (a := 1) (j := 4) (fs := []) (X := [0, 0, 0, 0, 0, 0]) jI_10_26 rfl rfl rfl rfl ?_
  refine jT_eq (LN := [(8, (0, 4)), (7, (4, 2)), (0, (4, 0)), (1, (1, 1)), (3, (1, 1)), (5, (1, x2))]) (stN := [(1, 0), (0, 4), (4, 2)]) (hsN := [(4, [(4, 1), (1, 1)], []), (101, [], [0, 0, 0, 0, 0, 0]), (101, [], [0, 0, 0, 0, 0, 0])]) rfl rfl rfl ?_
  refine jT_xlload_n (v := (1, 1)) (pcN := 28) jI_10_27 rfl rfl rfl ?_
  refine jT_xlmul (x := 0) (y := 1) (z := 0) (pcN := 29) jI_10_28 rfl (by decide) rfl ?_
  refine jT_adv 1 (pcN := 30) (LN := [(8, (0, 4)), (7, (4, 2)), (0, (4, 0)), (1, (1, 1)), (3, (1, 1)), (5, (1, x2))]) (stN := []) (hsN := [(4, [(4, 1), (1, 1)], []), (101, [], [0, 0, 0, 0, 0, 0]), (101, [], [0, 0, 0, 0, 0, 0])]) (c1 := 0) (s1 := 0) (c2 := 1) (s2 := 2) (by exact rfl) ?_ (by omega) (by omega)
  refine jT_xiinc (x := 4) (z := 5) (LN := [(8, (0, 5)), (7, (4, 2)), (0, (4, 0)), (1, (1, 1)), (3, (1, 1)), (5, (1, x2))]) (pcN := 33) jI_10_30 rfl rfl (by decide) rfl rfl ?_
  refine jT_xgoto (pcN := 9) jI_10_33 rfl ?_
  refine jT_xiload (v := (0, 5)) (pcN := 11) jI_10_9 rfl rfl rfl ?_
  refine jT_xbipush (k := 6) (pcN := 13) jI_10_11 (by decide) rfl ?_
  refine jT_xicF (t := 36) (pcN := 16) jI_10_13 rfl (by decide +kernel) rfl rfl ?_
  refine jT_xaload (v := (4, 2)) (pcN := 18) jI_10_16 rfl rfl rfl ?_
  refine jT_xiload (v := (0, 5)) (pcN := 20) jI_10_18 rfl rfl rfl ?_
  refine jT_xaload_n (v := (4, 0)) (pcN := 21) jI_10_20 rfl rfl rfl ?_
  refine jT_xgetf (a := 0) (t := 1) (ci := 4) (fi := 0) (c := (4, [(4, 1), (1, 1)], [])) (v := (4, 1)) (pcN := 24) jI_10_21 rfl rfl rfl rfl rfl rfl rfl ?_
  refine jT_xiload (v := (0, 5)) (pcN := 26) jI_10_24 rfl rfl rfl ?_
  refine jT_lald (x := 0) (a := 1) (j := 5) (fs := []) (X := [0, 0, 0, 0, 0, 0]) jI_10_26 rfl rfl rfl rfl ?_
  refine jT_eq (LN := [(8, (0, 5)), (7, (4, 2)), (0, (4, 0)), (1, (1, 1)), (3, (1, 1)), (5, (1, x2))]) (stN := [(1, 0), (0, 5), (4, 2)]) (hsN := [(4, [(4, 1), (1, 1)], []), (101, [], [0, 0, 0, 0, 0, 0]), (101, [], [0, 0, 0, 0, 0, 0])]) rfl rfl rfl ?_
  refine jT_xlload_n (v := (1, 1)) (pcN := 28) jI_10_27 rfl rfl rfl ?_
  refine jT_xlmul (x := 0) (y := 1) (z := 0) (pcN := 29) jI_10_28 rfl (by decide) rfl ?_
  refine jT_adv 1 (pcN := 30) (LN := [(8, (0, 5)), (7, (4, 2)), (0, (4, 0)), (1, (1, 1)), (3, (1, 1)), (5, (1, x2))]) (stN := []) (hsN := [(4, [(4, 1), (1, 1)], []), (101, [], [0, 0, 0, 0, 0, 0]), (101, [], [0, 0, 0, 0, 0, 0])]) (c1 := 0) (s1 := 0) (c2 := 1) (s2 := 2) (by exact rfl) ?_ (by omega) (by omega)
  refine jT_xiinc (x := 5) (z := 6) (LN := [(8, (0, 6)), (7, (4, 2)), (0, (4, 0)), (1, (1, 1)), (3, (1, 1)), (5, (1, x2))]) (pcN := 33) jI_10_30 rfl rfl (by decide) rfl rfl ?_
  refine jT_xgoto (pcN := 9) jI_10_33 rfl ?_
  refine jT_xiload (v := (0, 6)) (pcN := 11) jI_10_9 rfl rfl rfl ?_
  refine jT_xbipush (k := 6) (pcN := 13) jI_10_11 (by decide) rfl ?_
  refine jT_xicT (pcN := 36) jI_10_13 rfl (by decide +kernel) rfl ?_
  refine jT_xaload (v := (4, 2)) (pcN := 38) jI_10_36 rfl rfl rfl ?_
  refine jT_xiconst (k := 0) (pcN := 39) jI_10_38 rfl ?_
  refine jT_adv 1 (pcN := 40) (LN := [(8, (0, 6)), (7, (4, 2)), (0, (4, 0)), (1, (1, 1)), (3, (1, 1)), (5, (1, x2))]) (stN := [(0, 0), (4, 2), (0, 0), (4, 2)]) (hsN := [(4, [(4, 1), (1, 1)], []), (101, [], [0, 0, 0, 0, 0, 0]), (101, [], [0, 0, 0, 0, 0, 0])]) (c1 := 0) (s1 := 0) (c2 := 1) (s2 := 2) (by exact rfl) ?_ (by omega) (by omega)
  refine jT_lald (x := 0) (a := 2) (j := 0) (fs := []) (X := [0, 0, 0, 0, 0, 0]) jI_10_40 rfl rfl rfl rfl ?_
  refine jT_eq (LN := [(8, (0, 6)), (7, (4, 2)), (0, (4, 0)), (1, (1, 1)), (3, (1, 1)), (5, (1, x2))]) (stN := [(1, 0), (0, 0), (4, 2)]) (hsN := [(4, [(4, 1), (1, 1)], []), (101, [], [0, 0, 0, 0, 0, 0]), (101, [], [0, 0, 0, 0, 0, 0])]) rfl rfl rfl ?_
  refine jT_xlload (v := (1, x2)) (pcN := 43) jI_10_41 rfl rfl rfl ?_
  refine jT_xaload_n (v := (4, 0)) (pcN := 44) jI_10_43 rfl rfl rfl ?_
  refine jT_xgetf (a := 0) (t := 1) (ci := 4) (fi := 1) (c := (4, [(4, 1), (1, 1)], [])) (v := (1, 1)) (pcN := 47) jI_10_44 rfl rfl rfl rfl rfl rfl rfl ?_
  refine jT_xlmul (x := x2) (y := 1) (z := x2) (pcN := 48) jI_10_47 rfl (by omega) rfl ?_
  refine jT_xlload_n (v := (1, 1)) (pcN := 49) jI_10_48 rfl rfl rfl ?_
  refine jT_xlmul (x := x2) (y := 1) (z := x2) (pcN := 50) jI_10_49 rfl (by omega) rfl ?_
  refine jT_xladd (x := 0) (y := x2) (z := x2) (pcN := 51) jI_10_50 rfl (by omega) rfl ?_
  refine jT_adv 3 (pcN := 56) (LN := [(8, (0, 6)), (7, (4, 2)), (0, (4, 0)), (1, (1, 1)), (3, (1, 1)), (5, (1, x2))]) (stN := [(4, 3), (4, 3)]) (hsN := [(4, [(4, 1), (1, 1)], []), (101, [], [0, 0, 0, 0, 0, 0]), (101, [], [x2, 0, 0, 0, 0, 0]), (4, [(4, (-1)), (1, 0)], [])]) (c1 := 1) (s1 := 2) (c2 := 0) (s2 := 0) (by exact rfl) ?_ (by omega) (by omega)
  refine jT_xaload (v := (4, 2)) (pcN := 58) jI_10_56 rfl rfl rfl ?_
  refine jT_xaload_n (v := (4, 0)) (pcN := 59) jI_10_58 rfl rfl rfl ?_
  refine jT_xgetf (a := 0) (t := 1) (ci := 4) (fi := 1) (c := (4, [(4, 1), (1, 1)], [])) (v := (1, 1)) (pcN := 62) jI_10_59 rfl rfl rfl rfl rfl rfl rfl ?_
  refine jT_xlload_n (v := (1, 1)) (pcN := 63) jI_10_62 rfl rfl rfl ?_
  refine jT_xlmul (x := 1) (y := 1) (z := 1) (pcN := 64) jI_10_63 rfl (by decide) rfl ?_
  refine jT_callB [3, 2] (y := 9) (pcN := 67) (dC := 1) (bc1 := 0) (bc2 := 0) (c1 := 0) (c2 := 0) (as := [(4, 3), (4, 2), (1, 1)]) (asC := [(4, 0), (4, 1), (1, 1)]) (LN := [(8, (0, 6)), (7, (4, 2)), (0, (4, 0)), (1, (1, 1)), (3, (1, 1)), (5, (1, x2))]) (stN := [(4, 3)]) (hsC := [(4, [(4, (-1)), (1, 0)], []), (101, [], [x2, 0, 0, 0, 0, 0])]) (hsD := [(4, [(4, 1), (1, 1)], []), (101, [], [x2, 0, 0, 0, 0, 0])]) (v := (9, 0)) (st2 := [(4, 3)]) (hs2 := [(4, [(4, 1), (1, 1)], []), (101, [], [0, 0, 0, 0, 0, 0]), (101, [], [x2, 0, 0, 0, 0, 0]), (4, [(4, 2), (1, 1)], [])]) (jA_9_557 (d := 0) (by omega)) (by rfl) (by rfl) (by rfl) (by rfl) ⟨rfl, rfl, trivial⟩ (by rfl) (by rfl) (by omega) (by show 2 ≤ 4; omega) (by omega) (by omega) rfl rfl ?_
  exact jT_ret rfl (by decide) (by show 2 ≤ 4; decide) (by omega) (by omega) ⟨rfl, rfl, rfl⟩
theorem jA_116_559 {xs : List Int} {d : Nat} : jT xs d 116 1 0 [(0, (4, 0)), (1, (0, 0)), (2, (0, (-200))), (3, (0, 200))] [] [jgh] 0 0 (fun k v hsN => k = 0 ∧ v = (9, 0) ∧ hsN = [jgh] ++ []) := by
  refine jT_advK 6 (pcN := 21) (LN := [(0, (4, 0)), (1, (0, 0)), (2, (0, (-200))), (3, (0, 200))]) (stN := []) (hsN := [jgh]) (c1 := 0) (s1 := 0) (c2 := 0) (s2 := 0) (by decide +kernel) ?_ (by omega) (by omega)
  exact jT_ret rfl (by decide) (by show 1 ≤ 1; decide) (by omega) (by omega) ⟨rfl, rfl, rfl⟩
theorem jA_375_560 {xs : List Int} {d : Nat} : jT xs d 375 0 0 [(0, (0, 0)), (1, (0, 1))] [] [] 0 0 (fun k v hsN => k = 0 ∧ v = (0, 0) ∧ hsN = [] ++ []) := by
  refine jT_advK 9 (pcN := 19) (LN := [(2, (0, 0)), (0, (0, 0)), (1, (0, 1))]) (stN := [(0, 0)]) (hsN := []) (c1 := 0) (s1 := 0) (c2 := 0) (s2 := 0) (by decide +kernel) ?_ (by omega) (by omega)
  exact jT_ret rfl (by decide) (by show 0 ≤ 0; decide) (by omega) (by omega) ⟨rfl, rfl, rfl⟩
theorem jA_376_561 {xs : List Int} {d : Nat} : jT xs d 376 0 0 [(0, (0, 0)), (1, (0, 1))] [] [] 0 0 (fun k v hsN => k = 0 ∧ v = (0, 0) ∧ hsN = [] ++ []) := by
  refine jT_advK 9 (pcN := 22) (LN := [(2, (0, 0)), (0, (0, 0)), (1, (0, 1))]) (stN := [(0, 0)]) (hsN := []) (c1 := 0) (s1 := 0) (c2 := 0) (s2 := 0) (by decide +kernel) ?_ (by omega) (by omega)
  exact jT_ret rfl (by decide) (by show 0 ≤ 0; decide) (by omega) (by omega) ⟨rfl, rfl, rfl⟩
def jpA_2279 : List JC := [jzA_5, jgh, jgh, jgh, jgh, jgh, jgh, jgh, jgh, jgh, jzA_79, jzA_88, jzA_89, (117, [], [18, 19, 20, 21]), jgh, jgh, jgh, (4, [(4, 22), (1, 1)], []), (7, [(4, 23), (4, (-1)), (4, (-1))], []), jgh, jgh, jgh, (101, [], [0, 0, 0, 0, 0, 0]), (114, [], [17]), (101, [], [0, 0, 0, 0, 0, 0]), (4, [(4, 24), (1, 1)], [])]
def jpA_2280 : List JC := [jzA_5, jgh, jgh, jgh, jgh, jgh, jgh, jgh, jgh, jgh, jzA_79, jzA_88, jzA_89, (117, [], [18, 19, 20, 21]), jgh, jgh, jgh, (4, [(4, 22), (1, 1)], []), (7, [(4, 23), (4, (-1)), (4, (-1))], []), jgh, jgh, jgh, (101, [], [0, 0, 0, 0, 0, 0]), (114, [], [17]), (101, [], [0, 0, 0, 0, 0, 0]), (4, [(4, 24), (1, 1)], []), jgh, jzA_2216]
def jpA_2281 : List JC := [jzA_2217, jgh, jgh, jgh, jgh, jgh, jgh, jgh, jgh, jgh, jzA_102, jzA_88, jzA_89, (117, [], [18, 19, 20, 21]), jgh, jgh, jgh, (4, [(4, 22), (1, 1)], []), (7, [(4, 23), (4, (-1)), (4, (-1))], []), jgh, jgh, jgh, (101, [], [0, 0, 0, 0, 0, 0]), (114, [], [17]), (101, [], [0, 0, 0, 0, 0, 0]), (4, [(4, 24), (1, 1)], []), jgh, jzA_2216]
theorem jA_132_562 {xs : List Int} {d : Nat} {x3 : Int} (h_x3 : 0 ≤ x3 ∧ x3 ≤ 7) : jT xs (d + 3) 132 24 0 [(0, (4, 0)), (1, (0, 0)), (2, (0, 0)), (3, (0, x3))] [] jpA_2219 4 21 (fun k v hsN => k = 0 ∧ v = (0, 0) ∧ hsN = jpA_2281) := by
  refine jT_xaload_n (v := (4, 0)) (pcN := 1) jI_132_0 rfl rfl rfl ?_
  refine jT_xiload_n (v := (0, 0)) (pcN := 2) jI_132_1 rfl rfl rfl ?_
  refine jT_xiconst (k := 4) (pcN := 3) jI_132_2 rfl ?_
  refine jT_fR [0] 24 (y := 115) (pcN := 6) (dC := 0) (bc1 := 0) (bc2 := 0) (c1 := 4) (c2 := 21) (as := [(4, 0), (0, 0), (0, 4)]) (asC := [(4, 0), (0, 0), (0, 4)]) (LN := [(0, (4, 0)), (1, (0, 0)), (2, (0, 0)), (3, (0, x3))]) (stN := []) (hsC := [jgh]) (v := (9, 0)) (st2 := []) (jA_115_321 (d := 0)) (by rfl) (by rfl) (by decide +kernel) (by rfl) (by rfl) (by omega) (by omega) (by omega) (by omega) rfl ?_
  refine jT_xaload_n (v := (4, 0)) (pcN := 7) jI_132_6 rfl rfl rfl ?_
  refine jT_xiload_n (v := (0, x3)) (pcN := 8) jI_132_7 rfl rfl rfl ?_
  refine jT_xbipush (k := 8) (pcN := 10) jI_132_8 (by decide) rfl ?_
  refine jT_fR [0] 24 (y := 115) (pcN := 13) (dC := 0) (bc1 := 0) (bc2 := 0) (c1 := 4) (c2 := 21) (as := [(4, 0), (0, x3), (0, 8)]) (asC := [(4, 0), (0, x3), (0, 8)]) (LN := [(0, (4, 0)), (1, (0, 0)), (2, (0, 0)), (3, (0, x3))]) (stN := []) (hsC := [jgh]) (v := (9, 0)) (st2 := []) (jA_115_23 (d := 0) (by omega)) (by rfl) (by rfl) (by decide +kernel) (by rfl) (by rfl) (by omega) (by omega) (by omega) (by omega) rfl ?_
  refine jT_xaload_n (v := (4, 0)) (pcN := 14) jI_132_13 rfl rfl rfl ?_
  refine jT_xiload_n (v := (0, 0)) (pcN := 15) jI_132_14 rfl rfl rfl ?_
  refine jT_xsipush (k := (-200)) (pcN := 18) jI_132_15 (by decide) rfl ?_
  refine jT_xsipush (k := 200) (pcN := 21) jI_132_18 (by decide) rfl ?_
  refine jT_fR [0] 24 (y := 116) (pcN := 24) (dC := 0) (bc1 := 0) (bc2 := 0) (c1 := 4) (c2 := 21) (as := [(4, 0), (0, 0), (0, (-200)), (0, 200)]) (asC := [(4, 0), (0, 0), (0, (-200)), (0, 200)]) (LN := [(0, (4, 0)), (1, (0, 0)), (2, (0, 0)), (3, (0, x3))]) (stN := []) (hsC := [jgh]) (v := (9, 0)) (st2 := []) (jA_116_559 (d := 0)) (by rfl) (by rfl) (by decide +kernel) (by rfl) (by rfl) (by omega) (by omega) (by omega) (by omega) rfl ?_
  refine jT_xaload_n (v := (4, 0)) (pcN := 25) jI_132_24 rfl rfl rfl ?_
  refine jT_xgetf (a := 0) (t := 1) (ci := 13) (fi := 11) (c := jzA_5) (v := (4, 11)) (pcN := 28) jI_132_25 rfl rfl rfl rfl rfl rfl rfl ?_
  refine jT_xiload_n (v := (0, 0)) (pcN := 29) jI_132_28 rfl rfl rfl ?_
  refine jT_fR [11, 12, 13, 14, 15, 16, 18, 19, 20, 21] 24 (y := 56) (pcN := 32) (dC := 0) (bc1 := 0) (bc2 := 0) (c1 := 4) (c2 := 21) (as := [(4, 11), (0, 0)]) (asC := [(4, 0), (0, 0)]) (LN := [(0, (4, 0)), (1, (0, 0)), (2, (0, 0)), (3, (0, x3))]) (stN := []) (hsC := jpA_1446) (v := (4, 6)) (st2 := [(4, 18)]) (jA_56_322 (d := 0)) (by rfl) (by rfl) (by decide +kernel) (by rfl) (by rfl) (by omega) (by omega) (by omega) (by omega) rfl ?_
  refine jT_xastore (v := (4, 18)) (LN := [(4, (4, 18)), (0, (4, 0)), (1, (0, 0)), (2, (0, 0)), (3, (0, x3))]) (pcN := 34) jI_132_32 rfl rfl rfl rfl ?_
  refine jT_xiconst (k := 1) (pcN := 35) jI_132_34 rfl ?_
  refine jT_xaload (v := (4, 18)) (pcN := 37) jI_132_35 rfl rfl rfl ?_
  refine jT_fR [18, 23, 17] 24 (y := 29) (pcN := 40) (dC := 0) (bc1 := 0) (bc2 := 0) (c1 := 4) (c2 := 21) (as := [(4, 18)]) (asC := [(4, 0)]) (LN := [(4, (4, 18)), (0, (4, 0)), (1, (0, 0)), (2, (0, 0)), (3, (0, x3))]) (stN := [(0, 1)]) (hsC := [(7, [(4, 1), (4, (-1)), (4, (-1))], []), (114, [], [2]), jgh]) (v := (0, 1)) (st2 := [(0, 1), (0, 1)]) (jA_29_416 (d := 0)) (by rfl) (by rfl) (by decide +kernel) (by rfl) (by rfl) (by omega) (by omega) (by omega) (by omega) rfl ?_
  refine jT_mm0 (x := 1) (y := 1) (z := 1) (by rfl) (by rfl) (by rfl) (by rfl) (jw_idd (by omega) (by omega)) (jw_idd (by omega) (by omega)) (by rw [decide_eq_false (show ¬ ((1 : Int) < 1) by omega)]; rfl) ?_
  refine jT_xistore (v := (0, 1)) (LN := [(5, (0, 1)), (4, (4, 18)), (0, (4, 0)), (1, (0, 0)), (2, (0, 0)), (3, (0, x3))]) (pcN := 45) jI_132_43 rfl rfl rfl rfl ?_
  refine jT_xiload_n (v := (0, 0)) (pcN := 46) jI_132_45 rfl rfl rfl ?_
  refine jT_xiload (v := (0, 1)) (pcN := 48) jI_132_46 rfl rfl rfl ?_
  refine jT_fR [] 24 (y := 375) (pcN := 51) (dC := 0) (bc1 := 0) (bc2 := 0) (c1 := 4) (c2 := 21) (as := [(0, 0), (0, 1)]) (asC := [(0, 0), (0, 1)]) (LN := [(5, (0, 1)), (4, (4, 18)), (0, (4, 0)), (1, (0, 0)), (2, (0, 0)), (3, (0, x3))]) (stN := []) (hsC := []) (v := (0, 0)) (st2 := [(0, 0)]) (jA_375_560 (d := 0)) (by rfl) (by rfl) (by decide +kernel) (by rfl) (by rfl) (by omega) (by omega) (by omega) (by omega) rfl ?_
  refine jT_xistore (v := (0, 0)) (LN := [(6, (0, 0)), (5, (0, 1)), (4, (4, 18)), (0, (4, 0)), (1, (0, 0)), (2, (0, 0)), (3, (0, x3))]) (pcN := 53) jI_132_51 rfl rfl rfl rfl ?_
  refine jT_xaload (v := (4, 18)) (pcN := 55) jI_132_53 rfl rfl rfl ?_
  refine jT_xiload (v := (0, 0)) (pcN := 57) jI_132_55 rfl rfl rfl ?_
  refine jT_fR [18, 23, 17] 24 (y := 30) (pcN := 60) (dC := 0) (bc1 := 0) (bc2 := 0) (c1 := 4) (c2 := 21) (as := [(4, 18), (0, 0)]) (asC := [(4, 0), (0, 0)]) (LN := [(6, (0, 0)), (5, (0, 1)), (4, (4, 18)), (0, (4, 0)), (1, (0, 0)), (2, (0, 0)), (3, (0, x3))]) (stN := []) (hsC := [(7, [(4, 1), (4, (-1)), (4, (-1))], []), (114, [], [2]), jgh]) (v := (4, 2)) (st2 := [(4, 17)]) (jA_30_538 (d := 0)) (by rfl) (by rfl) (by decide +kernel) (by rfl) (by rfl) (by omega) (by omega) (by omega) (by omega) rfl ?_
  refine jT_xlconst (z := 1) (pcN := 61) jI_132_60 rfl rfl ?_
  refine jT_xlconst (z := 1) (pcN := 62) jI_132_61 rfl rfl ?_
  refine jT_xiload_n (v := (0, 0)) (pcN := 63) jI_132_62 rfl rfl rfl ?_
  refine jT_xiload (v := (0, 1)) (pcN := 65) jI_132_63 rfl rfl rfl ?_
  refine jT_fR [] 24 (y := 376) (pcN := 68) (dC := 0) (bc1 := 0) (bc2 := 0) (c1 := 4) (c2 := 21) (as := [(0, 0), (0, 1)]) (asC := [(0, 0), (0, 1)]) (LN := [(6, (0, 0)), (5, (0, 1)), (4, (4, 18)), (0, (4, 0)), (1, (0, 0)), (2, (0, 0)), (3, (0, x3))]) (stN := [(1, 1), (1, 1), (4, 17)]) (hsC := []) (v := (0, 0)) (st2 := [(0, 0), (1, 1), (1, 1), (4, 17)]) (jA_376_561 (d := 0)) (by rfl) (by rfl) (by decide +kernel) (by rfl) (by rfl) (by omega) (by omega) (by omega) (by omega) rfl ?_
  refine jT_xi2l (x := 0) (z := 0) (pcN := 69) jI_132_68 rfl (by decide +kernel) rfl ?_
  refine jT_fA [17, 22] 24 (y := 10) (pcN := 72) (dC := 2) (bc1 := 2) (bc2 := 8) (c1 := 2) (c2 := 13) (as := [(4, 17), (1, 1), (1, 1), (1, 0)]) (asC := [(4, 0), (1, 1), (1, 1), (1, 0)]) (LN := [(6, (0, 0)), (5, (0, 1)), (4, (4, 18)), (0, (4, 0)), (1, (0, 0)), (2, (0, 0)), (3, (0, x3))]) (stN := []) (hsC := [(4, [(4, 1), (1, 1)], []), (101, [], [0, 0, 0, 0, 0, 0])]) (ex := [(101, [], [0, 0, 0, 0, 0, 0]), (4, [(4, 2), (1, 1)], [])]) (v := (4, 3)) (st2 := [(4, 25)]) (hs2 := jpA_2279) (jA_10_148 (d := 0)) (by rfl) (by rfl) (by decide +kernel) (by rfl) (by rfl) (by omega) (by omega) (by omega) (by omega) rfl (by decide +kernel) ?_
  refine jT_xastore (v := (4, 25)) (LN := [(7, (4, 25)), (6, (0, 0)), (5, (0, 1)), (4, (4, 18)), (0, (4, 0)), (1, (0, 0)), (2, (0, 0)), (3, (0, x3))]) (pcN := 74) jI_132_72 rfl rfl rfl rfl ?_
  refine jT_xaload_n (v := (4, 0)) (pcN := 75) jI_132_74 rfl rfl rfl ?_
  refine jT_xaload (v := (4, 25)) (pcN := 77) jI_132_75 rfl rfl rfl ?_
  refine jT_fR [0, 25, 24] 26 (y := 117) (pcN := 80) (dC := 2) (bc1 := 0) (bc2 := 0) (c1 := 2) (c2 := 13) (as := [(4, 0), (4, 25)]) (asC := [(4, 0), (4, 1)]) (LN := [(7, (4, 25)), (6, (0, 0)), (5, (0, 1)), (4, (4, 18)), (0, (4, 0)), (1, (0, 0)), (2, (0, 0)), (3, (0, x3))]) (stN := []) (hsC := [jgh, (4, [(4, 2), (1, 1)], []), (101, [], [0, 0, 0, 0, 0, 0])]) (v := (9, 0)) (st2 := []) (jA_117_31 (d := 0)) (by rfl) (by rfl) (by decide +kernel) (by rfl) (by rfl) (by omega) (by omega) (by omega) (by omega) rfl ?_
  refine jT_xaload_n (v := (4, 0)) (pcN := 81) jI_132_80 rfl rfl rfl ?_
  refine jT_xaload_n (v := (4, 0)) (pcN := 82) jI_132_81 rfl rfl rfl ?_
  refine jT_xgetf (a := 0) (t := 1) (ci := 13) (fi := 11) (c := jzA_5) (v := (4, 11)) (pcN := 85) jI_132_82 rfl rfl rfl rfl rfl rfl rfl ?_
  refine jT_xiload_n (v := (0, x3)) (pcN := 86) jI_132_85 rfl rfl rfl ?_
  refine jT_xaload (v := (4, 25)) (pcN := 88) jI_132_86 rfl rfl rfl ?_
  refine jT_fA [11, 25, 12, 13, 14, 15, 16, 24, 17] 26 (y := 58) (pcN := 91) (dC := 1) (bc1 := 2) (bc2 := 13) (c1 := 0) (c2 := 0) (as := [(4, 11), (0, x3), (4, 25)]) (asC := [(4, 0), (0, x3), (4, 1)]) (LN := [(7, (4, 25)), (6, (0, 0)), (5, (0, 1)), (4, (4, 18)), (0, (4, 0)), (1, (0, 0)), (2, (0, 0)), (3, (0, x3))]) (stN := [(4, 0)]) (hsC := jpA_74) (ex := [jgh, jzA_72]) (v := (4, 10)) (st2 := [(4, 27), (4, 0)]) (hs2 := jpA_2280) (jA_58_181 (d := 0) (by omega)) (by rfl) (by rfl) (by decide +kernel) (by rfl) (by rfl) (by omega) (by omega) (by omega) (by omega) rfl (by decide +kernel) ?_
  refine jT_fB [0, 27, 1, 2, 3, 4, 5, 6, 7, 8, 9, 10, 11, 12, 13, 14, 15, 16] 28 (y := 100) (pcN := 94) (dC := 0) (bc1 := 0) (bc2 := 0) (c1 := 0) (c2 := 0) (as := [(4, 0), (4, 27)]) (asC := [(4, 0), (4, 1)]) (LN := [(7, (4, 25)), (6, (0, 0)), (5, (0, 1)), (4, (4, 18)), (0, (4, 0)), (1, (0, 0)), (2, (0, 0)), (3, (0, x3))]) (stN := []) (hsC := jpA_80) (hsD := jpA_78) (v := (9, 0)) (st2 := []) (hs2 := jpA_2281) (jA_100_34 (d := 0)) (by rfl) (by rfl) (by decide +kernel) (by rfl) (by rfl) (by omega) (by omega) (by omega) (by omega) rfl (by decide +kernel) ?_
  refine jT_xiload (v := (0, 0)) (pcN := 96) jI_132_94 rfl rfl rfl ?_
  exact jT_ret rfl (by decide) (by show 24 ≤ 28; decide) (by omega) (by omega) ⟨rfl, rfl, rfl⟩
def jpA_2282 : List JC := [jzA_2220, (101, [], [0]), jgh, jgh, jgh, jgh, jgh, jgh, jgh, jgh, jgh, jzA_76, jzA_77, jzA_109, (117, [], [19, 20, 21, 22]), jgh, jgh, jgh, (4, [(4, 23), (1, 1)], []), (7, [(4, 24), (4, (-1)), (4, (-1))], []), jgh, jgh, jgh, (101, [], [0, 0, 0, 0, 0, 0]), (114, [], [18]), (101, [], [0, 0, 0, 0, 0, 0]), (4, [(4, 25), (1, 1)], []), jgh, jzA_2221]
theorem jA_339_563 {xs : List Int} {d : Nat} {x3 : Int} (h_x3 : 0 ≤ x3 ∧ x3 ≤ 7) : jT xs (d + 4) 339 25 0 [(0, (4, 0)), (1, (0, 0)), (2, (0, 0)), (3, (0, x3)), (4, (4, 1))] [] jpA_2225 4 21 (fun k v hsN => k = 0 ∧ v = (0, 0) ∧ hsN = jpA_2282) := by
  refine jT_xaload (v := (4, 1)) (pcN := 2) jI_339_0 rfl rfl rfl ?_
  refine jT_xiconst (k := 0) (pcN := 3) jI_339_2 rfl ?_
  refine jT_xaload_n (v := (4, 0)) (pcN := 4) jI_339_3 rfl rfl rfl ?_
  refine jT_xiload_n (v := (0, 0)) (pcN := 5) jI_339_4 rfl rfl rfl ?_
  refine jT_xiload_n (v := (0, 0)) (pcN := 6) jI_339_5 rfl rfl rfl ?_
  refine jT_xiload_n (v := (0, x3)) (pcN := 7) jI_339_6 rfl rfl rfl ?_
  refine jT_fB [0, 2, 3, 4, 5, 6, 7, 8, 9, 10, 11, 12, 13, 14, 15, 16, 17, 18, 19, 20, 21, 22, 23, 24] 25 (y := 132) (pcN := 10) (dC := 3) (bc1 := 4) (bc2 := 21) (c1 := 0) (c2 := 0) (as := [(4, 0), (0, 0), (0, 0), (0, x3)]) (asC := [(4, 0), (0, 0), (0, 0), (0, x3)]) (LN := [(0, (4, 0)), (1, (0, 0)), (2, (0, 0)), (3, (0, x3)), (4, (4, 1))]) (stN := [(0, 0), (4, 1)]) (hsC := jpA_2219) (hsD := jpA_2281) (v := (0, 0)) (st2 := [(0, 0), (0, 0), (4, 1)]) (hs2 := jpA_2282) (jA_132_562 (d := 0) (by omega)) (by rfl) (by rfl) (by decide +kernel) (by rfl) (by rfl) (by omega) (by omega) (by omega) (by omega) rfl (by decide +kernel) ?_
  refine jT_xi2l (x := 0) (z := 0) (pcN := 11) jI_339_10 rfl (by decide +kernel) rfl ?_
  refine jT_adv 1 (pcN := 12) (LN := [(0, (4, 0)), (1, (0, 0)), (2, (0, 0)), (3, (0, x3)), (4, (4, 1))]) (stN := []) (hsN := jpA_2282) (c1 := 0) (s1 := 0) (c2 := 0) (s2 := 0) (by exact rfl) ?_ (by omega) (by omega)
  refine jT_xgoto (pcN := 27) jI_339_12 rfl ?_
  refine jT_xiconst (k := 0) (pcN := 28) jI_339_27 rfl ?_
  exact jT_ret rfl (by decide) (by show 25 ≤ 29; decide) (by omega) (by omega) ⟨rfl, rfl, rfl⟩
theorem jA_189_564 {xs : List Int} {d : Nat} : jT xs d 189 0 0 [(0, (1, 0)), (2, (1, (-200))), (4, (1, 200))] [] [] 0 0 (fun k v hsN => k = 0 ∧ v = (0, 1) ∧ hsN = [] ++ []) := by
  refine jT_advK 10 (pcN := 18) (LN := [(0, (1, 0)), (2, (1, (-200))), (4, (1, 200))]) (stN := [(0, 1)]) (hsN := []) (c1 := 0) (s1 := 0) (c2 := 0) (s2 := 0) (by decide +kernel) ?_ (by omega) (by omega)
  exact jT_ret rfl (by decide) (by show 0 ≤ 0; decide) (by omega) (by omega) ⟨rfl, rfl, rfl⟩
theorem jA_252_565 {xs : List Int} {d : Nat} {x3 : Int} (h_x3 : 0 ≤ x3 ∧ x3 ≤ 7) : jT xs (d + 2) 252 24 0 [(0, (4, 0)), (1, (0, 0)), (2, (0, 0)), (3, (0, x3))] [] jpA_248 0 0 (fun k v hsN => k = 0 ∧ v = (0, 0) ∧ hsN = [jzA_200, (100, [], ((((((((((((((jS0).set ((7 * x3).toNat) 0)).set ((7 * x3 + 1).toNat) 0)).set ((7 * x3 + 2).toNat) 0)).set ((7 * x3 + 3).toNat) 0)).set ((7 * x3 + 4).toNat) 0)).set ((7 * x3 + 5).toNat) 0)).set ((7 * x3 + 6).toNat) 1)), (100, [], []), jzA_196, jzA_201, jgh, jgh, (101, [], [0, 0, 0, 0, 0, 0]), jgh, jgh, jgh, jgh, jgh, jgh, jgh, jgh, (100, [], jS0), jgh, jgh, jgh, jgh, jgh, jgh, jgh]) := by
  refine jT_xaload_n (v := (4, 0)) (pcN := 1) jI_252_0 rfl rfl rfl ?_
  refine jT_xiload_n (v := (0, 0)) (pcN := 2) jI_252_1 rfl rfl rfl ?_
  refine jT_fR [] 24 (y := 238) (pcN := 5) (dC := 1) (bc1 := 0) (bc2 := 0) (c1 := 0) (c2 := 0) (as := [(0, 0)]) (asC := [(0, 0)]) (LN := [(0, (4, 0)), (1, (0, 0)), (2, (0, 0)), (3, (0, x3))]) (stN := [(4, 0)]) (hsC := []) (v := (0, 1)) (st2 := [(0, 1), (4, 0)]) (jA_238_338 (d := 0)) (by rfl) (by rfl) (by decide +kernel) (by rfl) (by rfl) (by omega) (by omega) (by omega) (by omega) rfl ?_
  refine jT_xifF (t := 19) (pcN := 8) jI_252_5 rfl (by decide +kernel) rfl rfl ?_
  refine jT_xiload_n (v := (0, x3)) (pcN := 9) jI_252_8 rfl rfl rfl ?_
  refine jT_fR [] 24 (y := 188) (pcN := 12) (dC := 1) (bc1 := 0) (bc2 := 0) (c1 := 0) (c2 := 0) (as := [(0, x3)]) (asC := [(0, x3)]) (LN := [(0, (4, 0)), (1, (0, 0)), (2, (0, 0)), (3, (0, x3))]) (stN := [(4, 0)]) (hsC := []) (v := (0, 1)) (st2 := [(0, 1), (4, 0)]) (jA_188_37 (d := 0) (by omega)) (by rfl) (by rfl) (by decide +kernel) (by rfl) (by rfl) (by omega) (by omega) (by omega) (by omega) rfl ?_
  refine jT_xifF (t := 19) (pcN := 15) jI_252_12 rfl (by decide +kernel) rfl rfl ?_
  refine jT_xiconst (k := 1) (pcN := 16) jI_252_15 rfl ?_
  refine jT_xgoto (pcN := 20) jI_252_16 rfl ?_
  refine jT_fR [0, 1, 2, 3, 4, 5, 6, 7, 8, 9, 10, 11, 12, 13, 14, 15] 24 (y := 190) (pcN := 23) (dC := 1) (bc1 := 0) (bc2 := 0) (c1 := 0) (c2 := 0) (as := [(4, 0), (0, 1)]) (asC := [(4, 0), (0, 1)]) (LN := [(0, (4, 0)), (1, (0, 0)), (2, (0, 0)), (3, (0, x3))]) (stN := []) (hsC := jpA_22) (v := (0, 0)) (st2 := [(0, 0)]) (jA_190_39 (d := 0)) (by rfl) (by rfl) (by decide +kernel) (by rfl) (by rfl) (by omega) (by omega) (by omega) (by omega) rfl ?_
  refine jT_xifF (t := 45) (pcN := 26) jI_252_23 rfl (by decide +kernel) rfl rfl ?_
  refine jT_xaload_n (v := (4, 0)) (pcN := 27) jI_252_26 rfl rfl rfl ?_
  refine jT_xiload_n (v := (0, 0)) (pcN := 28) jI_252_27 rfl rfl rfl ?_
  refine jT_xi2l (x := 0) (z := 0) (pcN := 29) jI_252_28 rfl (by decide +kernel) rfl ?_
  refine jT_adv 2 (pcN := 35) (LN := [(0, (4, 0)), (1, (0, 0)), (2, (0, 0)), (3, (0, x3))]) (stN := [(1, 200), (1, (-200)), (1, 0), (4, 0)]) (hsN := jpA_248) (c1 := 0) (s1 := 0) (c2 := 0) (s2 := 0) (by exact rfl) ?_ (by omega) (by omega)
  refine jT_fR [] 24 (y := 189) (pcN := 38) (dC := 0) (bc1 := 0) (bc2 := 0) (c1 := 0) (c2 := 0) (as := [(1, 0), (1, (-200)), (1, 200)]) (asC := [(1, 0), (1, (-200)), (1, 200)]) (LN := [(0, (4, 0)), (1, (0, 0)), (2, (0, 0)), (3, (0, x3))]) (stN := [(4, 0)]) (hsC := []) (v := (0, 1)) (st2 := [(0, 1), (4, 0)]) (jA_189_564 (d := 0)) (by rfl) (by rfl) (by decide +kernel) (by rfl) (by rfl) (by omega) (by omega) (by omega) (by omega) rfl ?_
  refine jT_xiconst (k := 2) (pcN := 39) jI_252_38 rfl ?_
  refine jT_fR [0] 24 (y := 191) (pcN := 42) (dC := 0) (bc1 := 0) (bc2 := 0) (c1 := 0) (c2 := 0) (as := [(4, 0), (0, 1), (0, 2)]) (asC := [(4, 0), (0, 1), (0, 2)]) (LN := [(0, (4, 0)), (1, (0, 0)), (2, (0, 0)), (3, (0, x3))]) (stN := []) (hsC := [jgh]) (v := (0, 0)) (st2 := [(0, 0)]) (jA_191_49 (d := 0)) (by rfl) (by rfl) (by decide +kernel) (by rfl) (by rfl) (by omega) (by omega) (by omega) (by omega) rfl ?_
  refine jT_xifT (pcN := 47) jI_252_42 rfl (by decide +kernel) rfl ?_
  refine jT_xiload_n (v := (0, 0)) (pcN := 48) jI_252_47 rfl rfl rfl ?_
  refine jT_xaload_n (v := (4, 0)) (pcN := 49) jI_252_48 rfl rfl rfl ?_
  refine jT_xiload_n (v := (0, 0)) (pcN := 50) jI_252_49 rfl rfl rfl ?_
  refine jT_fR [0, 1, 2, 3, 4, 5, 6, 7, 8, 9, 10, 11, 12, 13, 14, 15] 24 (y := 245) (pcN := 53) (dC := 0) (bc1 := 0) (bc2 := 0) (c1 := 0) (c2 := 0) (as := [(4, 0), (0, 0)]) (asC := [(4, 0), (0, 0)]) (LN := [(0, (4, 0)), (1, (0, 0)), (2, (0, 0)), (3, (0, x3))]) (stN := [(0, 0)]) (hsC := jpA_1519) (v := (0, 1)) (st2 := [(0, 1), (0, 0)]) (jA_245_339 (d := 0)) (by rfl) (by rfl) (by decide +kernel) (by rfl) (by rfl) (by omega) (by omega) (by omega) (by omega) rfl ?_
  refine jT_fR [] 24 (y := 375) (pcN := 56) (dC := 0) (bc1 := 0) (bc2 := 0) (c1 := 0) (c2 := 0) (as := [(0, 0), (0, 1)]) (asC := [(0, 0), (0, 1)]) (LN := [(0, (4, 0)), (1, (0, 0)), (2, (0, 0)), (3, (0, x3))]) (stN := []) (hsC := []) (v := (0, 0)) (st2 := [(0, 0)]) (jA_375_560 (d := 0)) (by rfl) (by rfl) (by decide +kernel) (by rfl) (by rfl) (by omega) (by omega) (by omega) (by omega) rfl ?_
  refine jT_xistore (v := (0, 0)) (LN := [(4, (0, 0)), (0, (4, 0)), (1, (0, 0)), (2, (0, 0)), (3, (0, x3))]) (pcN := 58) jI_252_56 rfl rfl rfl rfl ?_
  refine jT_xaload_n (v := (4, 0)) (pcN := 59) jI_252_58 rfl rfl rfl ?_
  refine jT_xaload_n (v := (4, 0)) (pcN := 60) jI_252_59 rfl rfl rfl ?_
  refine jT_xgetf (a := 0) (t := 1) (ci := 14) (fi := 1) (c := jzA_21) (v := (4, 1)) (pcN := 63) jI_252_60 rfl rfl rfl rfl rfl rfl rfl ?_
  refine jT_xiload_n (v := (0, 0)) (pcN := 64) jI_252_63 rfl rfl rfl ?_
  refine jT_xiload (v := (0, 0)) (pcN := 66) jI_252_64 rfl rfl rfl ?_
  refine jT_fR [] 24 (y := 242) (pcN := 69) (dC := 0) (bc1 := 0) (bc2 := 0) (c1 := 0) (c2 := 0) (as := [(0, 0), (0, 0)]) (asC := [(0, 0), (0, 0)]) (LN := [(4, (0, 0)), (0, (4, 0)), (1, (0, 0)), (2, (0, 0)), (3, (0, x3))]) (stN := [(4, 1), (4, 0)]) (hsC := []) (v := (0, 57)) (st2 := [(0, 57), (4, 1), (4, 0)]) (jA_242_340 (d := 0)) (by rfl) (by rfl) (by decide +kernel) (by rfl) (by rfl) (by omega) (by omega) (by omega) (by omega) rfl ?_
  refine jT_fR [0, 1, 2, 3, 4, 5, 6, 7, 8, 9, 10, 11, 12, 13, 14, 15] 24 (y := 203) (pcN := 72) (dC := 0) (bc1 := 0) (bc2 := 0) (c1 := 0) (c2 := 0) (as := [(4, 0), (4, 1), (0, 57)]) (asC := [(4, 0), (4, 1), (0, 57)]) (LN := [(4, (0, 0)), (0, (4, 0)), (1, (0, 0)), (2, (0, 0)), (3, (0, x3))]) (stN := []) (hsC := jpA_130) (v := (9, 0)) (st2 := []) (jA_203_344 (d := 0)) (by rfl) (by rfl) (by decide +kernel) (by rfl) (by rfl) (by omega) (by omega) (by omega) (by omega) rfl ?_
  refine jT_xaload_n (v := (4, 0)) (pcN := 73) jI_252_72 rfl rfl rfl ?_
  refine jT_xgetf (a := 0) (t := 1) (ci := 14) (fi := 9) (c := jzA_21) (v := (4, 7)) (pcN := 76) jI_252_73 rfl rfl rfl rfl rfl rfl rfl ?_
  refine jT_xiconst (k := 0) (pcN := 77) jI_252_76 rfl ?_
  refine jT_adv 1 (pcN := 78) (LN := [(4, (0, 0)), (0, (4, 0)), (1, (0, 0)), (2, (0, 0)), (3, (0, x3))]) (stN := [(0, 0), (4, 7), (0, 0), (4, 7)]) (hsN := jpA_248) (c1 := 0) (s1 := 0) (c2 := 0) (s2 := 0) (by exact rfl) ?_ (by omega) (by omega)
  refine jT_lald (x := 0) (a := 7) (j := 0) (fs := []) (X := [0, 0, 0, 0, 0, 0]) jI_252_78 rfl rfl rfl rfl ?_
  refine jT_eq (LN := [(4, (0, 0)), (0, (4, 0)), (1, (0, 0)), (2, (0, 0)), (3, (0, x3))]) (stN := [(1, 0), (0, 0), (4, 7)]) (hsN := jpA_248) rfl rfl rfl ?_
  refine jT_xaload_n (v := (4, 0)) (pcN := 80) jI_252_79 rfl rfl rfl ?_
  refine jT_xgetf (a := 0) (t := 1) (ci := 14) (fi := 10) (c := jzA_21) (v := (1, 1)) (pcN := 83) jI_252_80 rfl rfl rfl rfl rfl rfl rfl ?_
  refine jT_xiload_n (v := (0, 0)) (pcN := 84) jI_252_83 rfl rfl rfl ?_
  refine jT_xaload_n (v := (4, 0)) (pcN := 85) jI_252_84 rfl rfl rfl ?_
  refine jT_xiload_n (v := (0, 0)) (pcN := 86) jI_252_85 rfl rfl rfl ?_
  refine jT_fR [0, 1, 2, 3, 4, 5, 6, 7, 8, 9, 10, 11, 12, 13, 14, 15] 24 (y := 245) (pcN := 89) (dC := 0) (bc1 := 0) (bc2 := 0) (c1 := 0) (c2 := 0) (as := [(4, 0), (0, 0)]) (asC := [(4, 0), (0, 0)]) (LN := [(4, (0, 0)), (0, (4, 0)), (1, (0, 0)), (2, (0, 0)), (3, (0, x3))]) (stN := [(0, 0), (1, 1), (1, 0), (0, 0), (4, 7)]) (hsC := jpA_1519) (v := (0, 1)) (st2 := [(0, 1), (0, 0), (1, 1), (1, 0), (0, 0), (4, 7)]) (jA_245_339 (d := 0)) (by rfl) (by rfl) (by decide +kernel) (by rfl) (by rfl) (by omega) (by omega) (by omega) (by omega) rfl ?_
  refine jT_fR [] 24 (y := 376) (pcN := 92) (dC := 0) (bc1 := 0) (bc2 := 0) (c1 := 0) (c2 := 0) (as := [(0, 0), (0, 1)]) (asC := [(0, 0), (0, 1)]) (LN := [(4, (0, 0)), (0, (4, 0)), (1, (0, 0)), (2, (0, 0)), (3, (0, x3))]) (stN := [(1, 1), (1, 0), (0, 0), (4, 7)]) (hsC := []) (v := (0, 0)) (st2 := [(0, 0), (1, 1), (1, 0), (0, 0), (4, 7)]) (jA_376_561 (d := 0)) (by rfl) (by rfl) (by decide +kernel) (by rfl) (by rfl) (by omega) (by omega) (by omega) (by omega) rfl ?_
  refine jT_xi2l (x := 0) (z := 0) (pcN := 93) jI_252_92 rfl (by decide +kernel) rfl ?_
  refine jT_xlmul (x := 1) (y := 0) (z := 0) (pcN := 94) jI_252_93 rfl (by decide) rfl ?_
  refine jT_xladd (x := 0) (y := 0) (z := 0) (pcN := 95) jI_252_94 rfl (by decide) rfl ?_
  refine jT_adv 1 (pcN := 96) (LN := [(4, (0, 0)), (0, (4, 0)), (1, (0, 0)), (2, (0, 0)), (3, (0, x3))]) (stN := []) (hsN := jpA_248) (c1 := 0) (s1 := 0) (c2 := 0) (s2 := 0) (by exact rfl) ?_ (by omega) (by omega)
  refine jT_xaload_n (v := (4, 0)) (pcN := 97) jI_252_96 rfl rfl rfl ?_
  refine jT_xaload_n (v := (4, 0)) (pcN := 98) jI_252_97 rfl rfl rfl ?_
  refine jT_fR [0, 1, 2, 3, 4, 5, 6, 7, 8, 9, 10, 11, 12, 13, 14, 15] 24 (y := 205) (pcN := 101) (dC := 1) (bc1 := 0) (bc2 := 0) (c1 := 0) (c2 := 0) (as := [(4, 0)]) (asC := [(4, 0)]) (LN := [(4, (0, 0)), (0, (4, 0)), (1, (0, 0)), (2, (0, 0)), (3, (0, x3))]) (stN := [(4, 0)]) (hsC := jpA_147) (v := (0, 1)) (st2 := [(0, 1), (4, 0)]) (jA_205_48 (d := 0)) (by rfl) (by rfl) (by decide +kernel) (by rfl) (by rfl) (by omega) (by omega) (by omega) (by omega) rfl ?_
  refine jT_xiconst (k := 3) (pcN := 102) jI_252_101 rfl ?_
  refine jT_fR [0] 24 (y := 191) (pcN := 105) (dC := 0) (bc1 := 0) (bc2 := 0) (c1 := 0) (c2 := 0) (as := [(4, 0), (0, 1), (0, 3)]) (asC := [(4, 0), (0, 1), (0, 3)]) (LN := [(4, (0, 0)), (0, (4, 0)), (1, (0, 0)), (2, (0, 0)), (3, (0, x3))]) (stN := []) (hsC := [jgh]) (v := (0, 0)) (st2 := [(0, 0)]) (jA_191_117 (d := 0)) (by rfl) (by rfl) (by decide +kernel) (by rfl) (by rfl) (by omega) (by omega) (by omega) (by omega) rfl ?_
  refine jT_xifT (pcN := 110) jI_252_105 rfl (by decide +kernel) rfl ?_
  refine jT_xaload_n (v := (4, 0)) (pcN := 111) jI_252_110 rfl rfl rfl ?_
  refine jT_fB [0, 1, 2, 3, 4, 5, 6, 7, 8, 9, 10, 11, 12, 13, 14, 15, 16, 17, 18, 19, 20, 21, 22, 23] 24 (y := 195) (pcN := 114) (dC := 0) (bc1 := 0) (bc2 := 0) (c1 := 0) (c2 := 0) (as := [(4, 0)]) (asC := [(4, 0)]) (LN := [(4, (0, 0)), (0, (4, 0)), (1, (0, 0)), (2, (0, 0)), (3, (0, x3))]) (stN := []) (hsC := jpA_198) (hsD := jpA_202) (v := (9, 0)) (st2 := []) (hs2 := jpA_255) (jA_195_50 (d := 0)) (by rfl) (by rfl) (by decide +kernel) (by rfl) (by rfl) (by omega) (by omega) (by omega) (by omega) rfl (by decide +kernel) ?_
  refine jT_xaload_n (v := (4, 0)) (pcN := 115) jI_252_114 rfl rfl rfl ?_
  refine jT_xiload_n (v := (0, x3)) (pcN := 116) jI_252_115 rfl rfl rfl ?_
  refine jT_fB [0, 1, 2, 3, 4, 5, 6, 7, 8, 9, 10, 11, 12, 13, 14, 15] 24 (y := 196) (pcN := 119) (dC := 1) (bc1 := 0) (bc2 := 0) (c1 := 0) (c2 := 0) (as := [(4, 0), (0, x3)]) (asC := [(4, 0), (0, x3)]) (LN := [(4, (0, 0)), (0, (4, 0)), (1, (0, 0)), (2, (0, 0)), (3, (0, x3))]) (stN := []) (hsC := jpA_216) (hsD := [jzA_200, (100, [], ((((((((((((((jS0).set ((7 * x3).toNat) 0)).set ((7 * x3 + 1).toNat) 0)).set ((7 * x3 + 2).toNat) 0)).set ((7 * x3 + 3).toNat) 0)).set ((7 * x3 + 4).toNat) 0)).set ((7 * x3 + 5).toNat) 0)).set ((7 * x3 + 6).toNat) 1)), jgh, jgh, jgh, jgh, jgh, (101, [], [0, 0, 0, 0, 0, 0]), jgh, jgh, jgh, jgh, jgh, jgh, jgh, jgh]) (v := (0, 1)) (st2 := [(0, 1)]) (hs2 := [jzA_200, (100, [], ((((((((((((((jS0).set ((7 * x3).toNat) 0)).set ((7 * x3 + 1).toNat) 0)).set ((7 * x3 + 2).toNat) 0)).set ((7 * x3 + 3).toNat) 0)).set ((7 * x3 + 4).toNat) 0)).set ((7 * x3 + 5).toNat) 0)).set ((7 * x3 + 6).toNat) 1)), (100, [], []), jzA_196, jzA_201, jgh, jgh, (101, [], [0, 0, 0, 0, 0, 0]), jgh, jgh, jgh, jgh, jgh, jgh, jgh, jgh, (100, [], jS0), jgh, jgh, jgh, jgh, jgh, jgh, jgh]) (jA_196_194 (d := 0) (by omega)) (by rfl) (by rfl) (by decide +kernel) (by rfl) (by rfl) (by omega) (by omega) (by omega) (by omega) rfl rfl ?_
  refine jT_adv 1 (pcN := 120) (LN := [(4, (0, 0)), (0, (4, 0)), (1, (0, 0)), (2, (0, 0)), (3, (0, x3))]) (stN := []) (hsN := [jzA_200, (100, [], ((((((((((((((jS0).set ((7 * x3).toNat) 0)).set ((7 * x3 + 1).toNat) 0)).set ((7 * x3 + 2).toNat) 0)).set ((7 * x3 + 3).toNat) 0)).set ((7 * x3 + 4).toNat) 0)).set ((7 * x3 + 5).toNat) 0)).set ((7 * x3 + 6).toNat) 1)), (100, [], []), jzA_196, jzA_201, jgh, jgh, (101, [], [0, 0, 0, 0, 0, 0]), jgh, jgh, jgh, jgh, jgh, jgh, jgh, jgh, (100, [], jS0), jgh, jgh, jgh, jgh, jgh, jgh, jgh]) (c1 := 0) (s1 := 0) (c2 := 0) (s2 := 0) (by exact rfl) ?_ (by omega) (by omega)
  refine jT_xiload (v := (0, 0)) (pcN := 122) jI_252_120 rfl rfl rfl ?_
  exact jT_ret rfl (by decide) (by show 24 ≤ 24; decide) (by omega) (by omega) ⟨rfl, rfl, rfl⟩
theorem jA_116_566 {xs : List Int} {d : Nat} {x2 : Int} (h_x2 : 1 ≤ x2 ∧ x2 ≤ 200) : jT xs d 116 1 0 [(0, (4, 0)), (1, (0, x2)), (2, (0, (-200))), (3, (0, 200))] [] [jgh] 0 0 (fun k v hsN => k = 0 ∧ v = (9, 0) ∧ hsN = [jgh] ++ []) := by
  refine jT_xiload_n (v := (0, x2)) (pcN := 1) jI_116_0 rfl rfl rfl ?_
  refine jT_xiload_n (v := (0, (-200))) (pcN := 2) jI_116_1 rfl rfl rfl ?_
  refine jT_icF (a := x2) (b := (-200)) (t := 10) (by rfl) (by rfl) (by rfl) (jw_idd (by omega) (by omega)) (jw_idd (by omega) (by omega)) (by simp only [jcP] <;> omega) ?_
  refine jT_xiload_n (v := (0, x2)) (pcN := 6) jI_116_5 rfl rfl rfl ?_
  refine jT_xiload_n (v := (0, 200)) (pcN := 7) jI_116_6 rfl rfl rfl ?_
  refine jT_icT (a := x2) (b := 200) (t := 21) (by rfl) (by rfl) (by rfl) (jw_idd (by omega) (by omega)) (jw_idd (by omega) (by omega)) (by simp only [jcP] <;> omega) ?_
  exact jT_ret rfl (by decide) (by show 1 ≤ 1; decide) (by omega) (by omega) ⟨rfl, rfl, rfl⟩
theorem jA_97_567 {xs : List Int} {d : Nat} {x2 : Int} (h_x2 : 1 ≤ x2 ∧ x2 ≤ 200) : jT xs d 97 1 0 [(0, (4, 0)), (1, (1, 1))] [] [(101, [], [x2, 0, 0, 0, 0, 0])] 0 0 (fun k v hsN => k = 0 ∧ v = (1, 1) ∧ hsN = [(101, [], [x2, 0, 0, 0, 0, 0])] ++ []) := by
  refine jT_xlload_n (v := (1, 1)) (pcN := 1) jI_97_0 rfl rfl rfl ?_
  refine jT_xlconst (z := 1) (pcN := 2) jI_97_1 rfl rfl ?_
  refine jT_lcmp (a := 1) (b := 1) (z := 0) (by rfl) (by rfl) (by decide +kernel) (by decide +kernel) (by decide) ?_
  refine jT_xifT (pcN := 10) jI_97_3 rfl (by decide +kernel) rfl ?_
  refine jT_xlload_n (v := (1, 1)) (pcN := 11) jI_97_10 rfl rfl rfl ?_
  refine jT_xlstore_n (v := (1, 1)) (LN := [(3, (1, 1)), (0, (4, 0)), (1, (1, 1))]) (pcN := 12) jI_97_11 rfl rfl rfl rfl ?_
  refine jT_xiconst (k := 0) (pcN := 13) jI_97_12 rfl ?_
  refine jT_xistore (v := (0, 0)) (LN := [(5, (0, 0)), (3, (1, 1)), (0, (4, 0)), (1, (1, 1))]) (pcN := 15) jI_97_13 rfl rfl rfl rfl ?_
  refine jT_xiload (v := (0, 0)) (pcN := 17) jI_97_15 rfl rfl rfl ?_
  refine jT_xaload_n (v := (4, 0)) (pcN := 18) jI_97_17 rfl rfl rfl ?_
  refine jT_adv 1 (pcN := 19) (LN := [(5, (0, 0)), (3, (1, 1)), (0, (4, 0)), (1, (1, 1))]) (stN := [(0, 6), (0, 0)]) (hsN := [(101, [], [x2, 0, 0, 0, 0, 0])]) (c1 := 0) (s1 := 0) (c2 := 0) (s2 := 0) (by exact rfl) ?_ (by omega) (by omega)
  refine jT_xicF (t := 43) (pcN := 22) jI_97_19 rfl (by decide +kernel) rfl rfl ?_
  refine jT_xlload_n (v := (1, 1)) (pcN := 23) jI_97_22 rfl rfl rfl ?_
  refine jT_xlconst (z := 1) (pcN := 24) jI_97_23 rfl rfl ?_
  refine jT_lcmp (a := 1) (b := 1) (z := 0) (by rfl) (by rfl) (by decide +kernel) (by decide +kernel) (by decide) ?_
  refine jT_xifT (pcN := 43) jI_97_25 rfl (by decide +kernel) rfl ?_
  refine jT_xlload_n (v := (1, 1)) (pcN := 44) jI_97_43 rfl rfl rfl ?_
  refine jT_xlconst (z := 1) (pcN := 45) jI_97_44 rfl rfl ?_
  refine jT_lcmp (a := 1) (b := 1) (z := 0) (by rfl) (by rfl) (by decide +kernel) (by decide +kernel) (by decide) ?_
  refine jT_xifF (t := 61) (pcN := 49) jI_97_46 rfl (by decide +kernel) rfl rfl ?_
  refine jT_xlload_n (v := (1, 1)) (pcN := 50) jI_97_49 rfl rfl rfl ?_
  refine jT_xlconst (z := 1) (pcN := 51) jI_97_50 rfl rfl ?_
  refine jT_lcmp (a := 1) (b := 1) (z := 0) (by rfl) (by rfl) (by decide +kernel) (by decide +kernel) (by decide) ?_
  refine jT_xifT (pcN := 59) jI_97_52 rfl (by decide +kernel) rfl ?_
  refine jT_xlload_n (v := (1, 1)) (pcN := 60) jI_97_59 rfl rfl rfl ?_
  exact jT_ret rfl (by decide) (by show 1 ≤ 1; decide) (by omega) (by omega) ⟨rfl, rfl, rfl⟩
theorem jA_9_568 {xs : List Int} {d : Nat} {x2 : Int} (h_x2 : 1 ≤ x2 ∧ x2 ≤ 200) : jT xs (d + 1) 9 2 0 [(0, (4, 0)), (1, (4, 1)), (2, (1, 1))] [] [(4, [(4, (-1)), (1, 0)], []), (101, [], [x2, 0, 0, 0, 0, 0])] 0 0 (fun k v hsN => k = 0 ∧ v = (9, 0) ∧ hsN = [(4, [(4, 1), (1, 1)], []), (101, [], [x2, 0, 0, 0, 0, 0])]) := by
  refine jT_xaload_n (v := (4, 0)) (pcN := 1) jI_9_0 rfl rfl rfl ?_
  refine jT_adv 1 (pcN := 4) (LN := [(0, (4, 0)), (1, (4, 1)), (2, (1, 1))]) (stN := []) (hsN := [(4, [(4, (-1)), (1, 0)], []), (101, [], [x2, 0, 0, 0, 0, 0])]) (c1 := 0) (s1 := 0) (c2 := 0) (s2 := 0) (by exact rfl) ?_ (by omega) (by omega)
  refine jT_xaload_n (v := (4, 0)) (pcN := 5) jI_9_4 rfl rfl rfl ?_
  refine jT_xaload_n (v := (4, 1)) (pcN := 6) jI_9_5 rfl rfl rfl ?_
  refine jT_adv 1 (pcN := 9) (LN := [(0, (4, 0)), (1, (4, 1)), (2, (1, 1))]) (stN := []) (hsN := [(4, [(4, 1), (1, 0)], []), (101, [], [x2, 0, 0, 0, 0, 0])]) (c1 := 0) (s1 := 0) (c2 := 0) (s2 := 0) (by exact rfl) ?_ (by omega) (by omega)
  refine jT_xaload_n (v := (4, 0)) (pcN := 10) jI_9_9 rfl rfl rfl ?_
  refine jT_xaload_n (v := (4, 1)) (pcN := 11) jI_9_10 rfl rfl rfl ?_
  refine jT_xlload_n (v := (1, 1)) (pcN := 12) jI_9_11 rfl rfl rfl ?_
  refine jT_callA [1] (y := 97) (pcN := 15) (dC := 0) (bc1 := 0) (bc2 := 0) (c1 := 0) (c2 := 0) (as := [(4, 1), (1, 1)]) (asC := [(4, 0), (1, 1)]) (LN := [(0, (4, 0)), (1, (4, 1)), (2, (1, 1))]) (stN := [(4, 0)]) (hsC := [(101, [], [x2, 0, 0, 0, 0, 0])]) (ex := []) (v := (1, 1)) (st2 := [(1, 1), (4, 0)]) (hs2 := [(4, [(4, 1), (1, 0)], []), (101, [], [x2, 0, 0, 0, 0, 0])]) (jA_97_567 (d := 0) (by omega)) (by rfl) (by rfl) (by rfl) (by rfl) ⟨rfl, trivial⟩ (by rfl) (by rfl) (by omega) (by show 2 ≤ 2; omega) (by omega) (by omega) rfl rfl ?_
  refine jT_adv 1 (pcN := 18) (LN := [(0, (4, 0)), (1, (4, 1)), (2, (1, 1))]) (stN := []) (hsN := [(4, [(4, 1), (1, 1)], []), (101, [], [x2, 0, 0, 0, 0, 0])]) (c1 := 0) (s1 := 0) (c2 := 0) (s2 := 0) (by exact rfl) ?_ (by omega) (by omega)
  exact jT_ret rfl (by decide) (by show 2 ≤ 2; decide) (by omega) (by omega) ⟨rfl, rfl, rfl⟩
theorem jA_10_569 {xs : List Int} {d : Nat} {x2 : Int} (h_x2 : 1 ≤ x2 ∧ x2 ≤ 200) : jT xs (d + 2) 10 2 0 [(0, (4, 0)), (1, (1, 1)), (3, (1, 1)), (5, (1, x2))] [] [(4, [(4, 1), (1, 1)], []), (101, [], [0, 0, 0, 0, 0, 0])] 2 8 (fun k v hsN => k = 0 ∧ v = (4, 3) ∧ hsN = [(4, [(4, 1), (1, 1)], []), (101, [], [0, 0, 0, 0, 0, 0])] ++ [(101, [], [x2, 0, 0, 0, 0, 0]), (4, [(4, 2), (1, 1)], [])]) := by
  refine jT_xbipush (k := 6) (pcN := 2) jI_10_0 (by decide) rfl ?_
  refine jT_adv 1 (pcN := 4) (LN := [(0, (4, 0)), (1, (1, 1)), (3, (1, 1)), (5, (1, x2))]) (stN := [(4, 2)]) (hsN := [(4, [(4, 1), (1, 1)], []), (101, [], [0, 0, 0, 0, 0, 0]), (101, [], [0, 0, 0, 0, 0, 0])]) (c1 := 1) (s1 := 6) (c2 := 1) (s2 := 2) (by exact rfl) ?_ (by omega) (by omega)
  refine jT_xastore (v := (4, 2)) (LN := [(7, (4, 2)), (0, (4, 0)), (1, (1, 1)), (3, (1, 1)), (5, (1, x2))]) (pcN := 6) jI_10_4 rfl rfl rfl rfl ?_
  refine jT_xiconst (k := 0) (pcN := 7) jI_10_6 rfl ?_
  refine jT_xistore (v := (0, 0)) (LN := [(8, (0, 0)), (7, (4, 2)), (0, (4, 0)), (1, (1, 1)), (3, (1, 1)), (5, (1, x2))]) (pcN := 9) jI_10_7 rfl rfl rfl rfl ?_
  refine jT_xiload (v := (0, 0)) (pcN := 11) jI_10_9 rfl rfl rfl ?_
  refine jT_xbipush (k := 6) (pcN := 13) jI_10_11 (by decide) rfl ?_
  refine jT_xicF (t := 36) (pcN := 16) jI_10_13 rfl (by decide +kernel) rfl rfl ?_
  refine jT_xaload (v := (4, 2)) (pcN := 18) jI_10_16 rfl rfl rfl ?_
  refine jT_xiload (v := (0, 0)) (pcN := 20) jI_10_18 rfl rfl rfl ?_
  refine jT_xaload_n (v := (4, 0)) (pcN := 21) jI_10_20 rfl rfl rfl ?_
  refine jT_xgetf (a := 0) (t := 1) (ci := 4) (fi := 0) (c := (4, [(4, 1), (1, 1)], [])) (v := (4, 1)) (pcN := 24) jI_10_21 rfl rfl rfl rfl rfl rfl rfl ?_
  refine jT_xiload (v := (0, 0)) (pcN := 26) jI_10_24 rfl rfl rfl ?_
  refine jT_lald (x := 0) (a := 1) (j := 0) (fs := []) (X := [0, 0, 0, 0, 0, 0]) jI_10_26 rfl rfl rfl rfl ?_
  refine jT_eq (LN := [(8, (0, 0)), (7, (4, 2)), (0, (4, 0)), (1, (1, 1)), (3, (1, 1)), (5, (1, x2))]) (stN := [(1, 0), (0, 0), (4, 2)]) (hsN := [(4, [(4, 1), (1, 1)], []), (101, [], [0, 0, 0, 0, 0, 0]), (101, [], [0, 0, 0, 0, 0, 0])]) rfl rfl rfl ?_
  refine jT_xlload_n (v := (1, 1)) (pcN := 28) jI_10_27 rfl rfl rfl ?_
  refine jT_xlmul (x := 0) (y := 1) (z := 0) (pcN := 29) jI_10_28 rfl (by decide) rfl ?_
  refine jT_adv 1 (pcN := 30) (LN := [(8, (0, 0)), (7, (4, 2)), (0, (4, 0)), (1, (1, 1)), (3, (1, 1)), (5, (1, x2))]) (stN := []) (hsN := [(4, [(4, 1), (1, 1)], []), (101, [], [0, 0, 0, 0, 0, 0]), (101, [], [0, 0, 0, 0, 0, 0])]) (c1 := 0) (s1 := 0) (c2 := 1) (s2 := 2) (by exact rfl) ?_ (by omega) (by omega)
  refine jT_xiinc (x := 0) (z := 1) (LN := [(8, (0, 1)), (7, (4, 2)), (0, (4, 0)), (1, (1, 1)), (3, (1, 1)), (5, (1, x2))]) (pcN := 33) jI_10_30 rfl rfl (by decide) rfl rfl ?_
  refine jT_xgoto (pcN := 9) jI_10_33 rfl ?_
  refine jT_xiload (v := (0, 1)) (pcN := 11) jI_10_9 rfl rfl rfl ?_
  refine jT_xbipush (k := 6) (pcN := 13) jI_10_11 (by decide) rfl ?_
  refine jT_xicF (t := 36) (pcN := 16) jI_10_13 rfl (by decide +kernel) rfl rfl ?_
  refine jT_xaload (v := (4, 2)) (pcN := 18) jI_10_16 rfl rfl rfl ?_
  refine jT_xiload (v := (0, 1)) (pcN := 20) jI_10_18 rfl rfl rfl ?_
  refine jT_xaload_n (v := (4, 0)) (pcN := 21) jI_10_20 rfl rfl rfl ?_
  refine jT_xgetf (a := 0) (t := 1) (ci := 4) (fi := 0) (c := (4, [(4, 1), (1, 1)], [])) (v := (4, 1)) (pcN := 24) jI_10_21 rfl rfl rfl rfl rfl rfl rfl ?_
  refine jT_xiload (v := (0, 1)) (pcN := 26) jI_10_24 rfl rfl rfl ?_
  refine jT_lald (x := 0) (a := 1) (j := 1) (fs := []) (X := [0, 0, 0, 0, 0, 0]) jI_10_26 rfl rfl rfl rfl ?_
  refine jT_eq (LN := [(8, (0, 1)), (7, (4, 2)), (0, (4, 0)), (1, (1, 1)), (3, (1, 1)), (5, (1, x2))]) (stN := [(1, 0), (0, 1), (4, 2)]) (hsN := [(4, [(4, 1), (1, 1)], []), (101, [], [0, 0, 0, 0, 0, 0]), (101, [], [0, 0, 0, 0, 0, 0])]) rfl rfl rfl ?_
  refine jT_xlload_n (v := (1, 1)) (pcN := 28) jI_10_27 rfl rfl rfl ?_
  refine jT_xlmul (x := 0) (y := 1) (z := 0) (pcN := 29) jI_10_28 rfl (by decide) rfl ?_
  refine jT_adv 1 (pcN := 30) (LN := [(8, (0, 1)), (7, (4, 2)), (0, (4, 0)), (1, (1, 1)), (3, (1, 1)), (5, (1, x2))]) (stN := []) (hsN := [(4, [(4, 1), (1, 1)], []), (101, [], [0, 0, 0, 0, 0, 0]), (101, [], [0, 0, 0, 0, 0, 0])]) (c1 := 0) (s1 := 0) (c2 := 1) (s2 := 2) (by exact rfl) ?_ (by omega) (by omega)
  refine jT_xiinc (x := 1) (z := 2) (LN := [(8, (0, 2)), (7, (4, 2)), (0, (4, 0)), (1, (1, 1)), (3, (1, 1)), (5, (1, x2))]) (pcN := 33) jI_10_30 rfl rfl (by decide) rfl rfl ?_
  refine jT_xgoto (pcN := 9) jI_10_33 rfl ?_
  refine jT_xiload (v := (0, 2)) (pcN := 11) jI_10_9 rfl rfl rfl ?_
  refine jT_xbipush (k := 6) (pcN := 13) jI_10_11 (by decide) rfl ?_
  refine jT_xicF (t := 36) (pcN := 16) jI_10_13 rfl (by decide +kernel) rfl rfl ?_
  refine jT_xaload (v := (4, 2)) (pcN := 18) jI_10_16 rfl rfl rfl ?_
  refine jT_xiload (v := (0, 2)) (pcN := 20) jI_10_18 rfl rfl rfl ?_
  refine jT_xaload_n (v := (4, 0)) (pcN := 21) jI_10_20 rfl rfl rfl ?_
  refine jT_xgetf (a := 0) (t := 1) (ci := 4) (fi := 0) (c := (4, [(4, 1), (1, 1)], [])) (v := (4, 1)) (pcN := 24) jI_10_21 rfl rfl rfl rfl rfl rfl rfl ?_
  refine jT_xiload (v := (0, 2)) (pcN := 26) jI_10_24 rfl rfl rfl ?_
  refine jT_lald (x := 0) (a := 1) (j := 2) (fs := []) (X := [0, 0, 0, 0, 0, 0]) jI_10_26 rfl rfl rfl rfl ?_
  refine jT_eq (LN := [(8, (0, 2)), (7, (4, 2)), (0, (4, 0)), (1, (1, 1)), (3, (1, 1)), (5, (1, x2))]) (stN := [(1, 0), (0, 2), (4, 2)]) (hsN := [(4, [(4, 1), (1, 1)], []), (101, [], [0, 0, 0, 0, 0, 0]), (101, [], [0, 0, 0, 0, 0, 0])]) rfl rfl rfl ?_
  refine jT_xlload_n (v := (1, 1)) (pcN := 28) jI_10_27 rfl rfl rfl ?_
  refine jT_xlmul (x := 0) (y := 1) (z := 0) (pcN := 29) jI_10_28 rfl (by decide) rfl ?_
  refine jT_adv 1 (pcN := 30) (LN := [(8, (0, 2)), (7, (4, 2)), (0, (4, 0)), (1, (1, 1)), (3, (1, 1)), (5, (1, x2))]) (stN := []) (hsN := [(4, [(4, 1), (1, 1)], []), (101, [], [0, 0, 0, 0, 0, 0]), (101, [], [0, 0, 0, 0, 0, 0])]) (c1 := 0) (s1 := 0) (c2 := 1) (s2 := 2) (by exact rfl) ?_ (by omega) (by omega)
  refine jT_xiinc (x := 2) (z := 3) (LN := [(8, (0, 3)), (7, (4, 2)), (0, (4, 0)), (1, (1, 1)), (3, (1, 1)), (5, (1, x2))]) (pcN := 33) jI_10_30 rfl rfl (by decide) rfl rfl ?_
  refine jT_xgoto (pcN := 9) jI_10_33 rfl ?_
  refine jT_xiload (v := (0, 3)) (pcN := 11) jI_10_9 rfl rfl rfl ?_
  refine jT_xbipush (k := 6) (pcN := 13) jI_10_11 (by decide) rfl ?_
  refine jT_xicF (t := 36) (pcN := 16) jI_10_13 rfl (by decide +kernel) rfl rfl ?_
  refine jT_xaload (v := (4, 2)) (pcN := 18) jI_10_16 rfl rfl rfl ?_
  refine jT_xiload (v := (0, 3)) (pcN := 20) jI_10_18 rfl rfl rfl ?_
  refine jT_xaload_n (v := (4, 0)) (pcN := 21) jI_10_20 rfl rfl rfl ?_
  refine jT_xgetf (a := 0) (t := 1) (ci := 4) (fi := 0) (c := (4, [(4, 1), (1, 1)], [])) (v := (4, 1)) (pcN := 24) jI_10_21 rfl rfl rfl rfl rfl rfl rfl ?_
  refine jT_xiload (v := (0, 3)) (pcN := 26) jI_10_24 rfl rfl rfl ?_
  refine jT_lald (x := 0) (a := 1) (j := 3) (fs := []) (X := [0, 0, 0, 0, 0, 0]) jI_10_26 rfl rfl rfl rfl ?_
  refine jT_eq (LN := [(8, (0, 3)), (7, (4, 2)), (0, (4, 0)), (1, (1, 1)), (3, (1, 1)), (5, (1, x2))]) (stN := [(1, 0), (0, 3), (4, 2)]) (hsN := [(4, [(4, 1), (1, 1)], []), (101, [], [0, 0, 0, 0, 0, 0]), (101, [], [0, 0, 0, 0, 0, 0])]) rfl rfl rfl ?_
  refine jT_xlload_n (v := (1, 1)) (pcN := 28) jI_10_27 rfl rfl rfl ?_
  refine jT_xlmul (x := 0) (y := 1) (z := 0) (pcN := 29) jI_10_28 rfl (by decide) rfl ?_
  refine jT_adv 1 (pcN := 30) (LN := [(8, (0, 3)), (7, (4, 2)), (0, (4, 0)), (1, (1, 1)), (3, (1, 1)), (5, (1, x2))]) (stN := []) (hsN := [(4, [(4, 1), (1, 1)], []), (101, [], [0, 0, 0, 0, 0, 0]), (101, [], [0, 0, 0, 0, 0, 0])]) (c1 := 0) (s1 := 0) (c2 := 1) (s2 := 2) (by exact rfl) ?_ (by omega) (by omega)
  refine jT_xiinc (x := 3) (z := 4) (LN := [(8, (0, 4)), (7, (4, 2)), (0, (4, 0)), (1, (1, 1)), (3, (1, 1)), (5, (1, x2))]) (pcN := 33) jI_10_30 rfl rfl (by decide) rfl rfl ?_
  refine jT_xgoto (pcN := 9) jI_10_33 rfl ?_
  refine jT_xiload (v := (0, 4)) (pcN := 11) jI_10_9 rfl rfl rfl ?_
  refine jT_xbipush (k := 6) (pcN := 13) jI_10_11 (by decide) rfl ?_
  refine jT_xicF (t := 36) (pcN := 16) jI_10_13 rfl (by decide +kernel) rfl rfl ?_
  refine jT_xaload (v := (4, 2)) (pcN := 18) jI_10_16 rfl rfl rfl ?_
  refine jT_xiload (v := (0, 4)) (pcN := 20) jI_10_18 rfl rfl rfl ?_
  refine jT_xaload_n (v := (4, 0)) (pcN := 21) jI_10_20 rfl rfl rfl ?_
  refine jT_xgetf (a := 0) (t := 1) (ci := 4) (fi := 0) (c := (4, [(4, 1), (1, 1)], [])) (v := (4, 1)) (pcN := 24) jI_10_21 rfl rfl rfl rfl rfl rfl rfl ?_
  refine jT_xiload (v := (0, 4)) (pcN := 26) jI_10_24 rfl rfl rfl ?_
  refine jT_lald (x := 0) (a := 1) (j := 4) (fs := []) (X := [0, 0, 0, 0, 0, 0]) jI_10_26 rfl rfl rfl rfl ?_
  refine jT_eq (LN := [(8, (0, 4)), (7, (4, 2)), (0, (4, 0)), (1, (1, 1)), (3, (1, 1)), (5, (1, x2))]) (stN := [(1, 0), (0, 4), (4, 2)]) (hsN := [(4, [(4, 1), (1, 1)], []), (101, [], [0, 0, 0, 0, 0, 0]), (101, [], [0, 0, 0, 0, 0, 0])]) rfl rfl rfl ?_
  refine jT_xlload_n (v := (1, 1)) (pcN := 28) jI_10_27 rfl rfl rfl ?_
  refine jT_xlmul (x := 0) (y := 1) (z := 0) (pcN := 29) jI_10_28 rfl (by decide) rfl ?_
  refine jT_adv 1 (pcN := 30) (LN := [(8, (0, 4)), (7, (4, 2)), (0, (4, 0)), (1, (1, 1)), (3, (1, 1)), (5, (1, x2))]) (stN := []) (hsN := [(4, [(4, 1), (1, 1)], []), (101, [], [0, 0, 0, 0, 0, 0]), (101, [], [0, 0, 0, 0, 0, 0])]) (c1 := 0) (s1 := 0) (c2 := 1) (s2 := 2) (by exact rfl) ?_ (by omega) (by omega)
  refine jT_xiinc (x := 4) (z := 5) (LN := [(8, (0, 5)), (7, (4, 2)), (0, (4, 0)), (1, (1, 1)), (3, (1, 1)), (5, (1, x2))]) (pcN := 33) jI_10_30 rfl rfl (by decide) rfl rfl ?_
  refine jT_xgoto (pcN := 9) jI_10_33 rfl ?_
  refine jT_xiload (v := (0, 5)) (pcN := 11) jI_10_9 rfl rfl rfl ?_
  refine jT_xbipush (k := 6) (pcN := 13) jI_10_11 (by decide) rfl ?_
  refine jT_xicF (t := 36) (pcN := 16) jI_10_13 rfl (by decide +kernel) rfl rfl ?_
  refine jT_xaload (v := (4, 2)) (pcN := 18) jI_10_16 rfl rfl rfl ?_
  refine jT_xiload (v := (0, 5)) (pcN := 20) jI_10_18 rfl rfl rfl ?_
  refine jT_xaload_n (v := (4, 0)) (pcN := 21) jI_10_20 rfl rfl rfl ?_
  refine jT_xgetf (a := 0) (t := 1) (ci := 4) (fi := 0) (c := (4, [(4, 1), (1, 1)], [])) (v := (4, 1)) (pcN := 24) jI_10_21 rfl rfl rfl rfl rfl rfl rfl ?_
  refine jT_xiload (v := (0, 5)) (pcN := 26) jI_10_24 rfl rfl rfl ?_
  refine jT_lald (x := 0) (a := 1) (j := 5) (fs := []) (X := [0, 0, 0, 0, 0, 0]) jI_10_26 rfl rfl rfl rfl ?_
  refine jT_eq (LN := [(8, (0, 5)), (7, (4, 2)), (0, (4, 0)), (1, (1, 1)), (3, (1, 1)), (5, (1, x2))]) (stN := [(1, 0), (0, 5), (4, 2)]) (hsN := [(4, [(4, 1), (1, 1)], []), (101, [], [0, 0, 0, 0, 0, 0]), (101, [], [0, 0, 0, 0, 0, 0])]) rfl rfl rfl ?_
  refine jT_xlload_n (v := (1, 1)) (pcN := 28) jI_10_27 rfl rfl rfl ?_
  refine jT_xlmul (x := 0) (y := 1) (z := 0) (pcN := 29) jI_10_28 rfl (by decide) rfl ?_
  refine jT_adv 1 (pcN := 30) (LN := [(8, (0, 5)), (7, (4, 2)), (0, (4, 0)), (1, (1, 1)), (3, (1, 1)), (5, (1, x2))]) (stN := []) (hsN := [(4, [(4, 1), (1, 1)], []), (101, [], [0, 0, 0, 0, 0, 0]), (101, [], [0, 0, 0, 0, 0, 0])]) (c1 := 0) (s1 := 0) (c2 := 1) (s2 := 2) (by exact rfl) ?_ (by omega) (by omega)
  refine jT_xiinc (x := 5) (z := 6) (LN := [(8, (0, 6)), (7, (4, 2)), (0, (4, 0)), (1, (1, 1)), (3, (1, 1)), (5, (1, x2))]) (pcN := 33) jI_10_30 rfl rfl (by decide) rfl rfl ?_
  refine jT_xgoto (pcN := 9) jI_10_33 rfl ?_
  refine jT_xiload (v := (0, 6)) (pcN := 11) jI_10_9 rfl rfl rfl ?_
  refine jT_xbipush (k := 6) (pcN := 13) jI_10_11 (by decide) rfl ?_
  refine jT_xicT (pcN := 36) jI_10_13 rfl (by decide +kernel) rfl ?_
  refine jT_xaload (v := (4, 2)) (pcN := 38) jI_10_36 rfl rfl rfl ?_
  refine jT_xiconst (k := 0) (pcN := 39) jI_10_38 rfl ?_
  refine jT_adv 1 (pcN := 40) (LN := [(8, (0, 6)), (7, (4, 2)), (0, (4, 0)), (1, (1, 1)), (3, (1, 1)), (5, (1, x2))]) (stN := [(0, 0), (4, 2), (0, 0), (4, 2)]) (hsN := [(4, [(4, 1), (1, 1)], []), (101, [], [0, 0, 0, 0, 0, 0]), (101, [], [0, 0, 0, 0, 0, 0])]) (c1 := 0) (s1 := 0) (c2 := 1) (s2 := 2) (by exact rfl) ?_ (by omega) (by omega)
  refine jT_lald (x := 0) (a := 2) (j := 0) (fs := []) (X := [0, 0, 0, 0, 0, 0]) jI_10_40 rfl rfl rfl rfl ?_
  refine jT_eq (LN := [(8, (0, 6)), (7, (4, 2)), (0, (4, 0)), (1, (1, 1)), (3, (1, 1)), (5, (1, x2))]) (stN := [(1, 0), (0, 0), (4, 2)]) (hsN := [(4, [(4, 1), (1, 1)], []), (101, [], [0, 0, 0, 0, 0, 0]), (101, [], [0, 0, 0, 0, 0, 0])]) rfl rfl rfl ?_
  refine jT_xlload (v := (1, x2)) (pcN := 43) jI_10_41 rfl rfl rfl ?_
  refine jT_xaload_n (v := (4, 0)) (pcN := 44) jI_10_43 rfl rfl rfl ?_
  refine jT_xgetf (a := 0) (t := 1) (ci := 4) (fi := 1) (c := (4, [(4, 1), (1, 1)], [])) (v := (1, 1)) (pcN := 47) jI_10_44 rfl rfl rfl rfl rfl rfl rfl ?_
  refine jT_xlmul (x := x2) (y := 1) (z := x2) (pcN := 48) jI_10_47 rfl (by omega) rfl ?_
  refine jT_xlload_n (v := (1, 1)) (pcN := 49) jI_10_48 rfl rfl rfl ?_
  refine jT_xlmul (x := x2) (y := 1) (z := x2) (pcN := 50) jI_10_49 rfl (by omega) rfl ?_
  refine jT_xladd (x := 0) (y := x2) (z := x2) (pcN := 51) jI_10_50 rfl (by omega) rfl ?_
  refine jT_adv 3 (pcN := 56) (LN := [(8, (0, 6)), (7, (4, 2)), (0, (4, 0)), (1, (1, 1)), (3, (1, 1)), (5, (1, x2))]) (stN := [(4, 3), (4, 3)]) (hsN := [(4, [(4, 1), (1, 1)], []), (101, [], [0, 0, 0, 0, 0, 0]), (101, [], [x2, 0, 0, 0, 0, 0]), (4, [(4, (-1)), (1, 0)], [])]) (c1 := 1) (s1 := 2) (c2 := 0) (s2 := 0) (by exact rfl) ?_ (by omega) (by omega)
  refine jT_xaload (v := (4, 2)) (pcN := 58) jI_10_56 rfl rfl rfl ?_
  refine jT_xaload_n (v := (4, 0)) (pcN := 59) jI_10_58 rfl rfl rfl ?_
  refine jT_xgetf (a := 0) (t := 1) (ci := 4) (fi := 1) (c := (4, [(4, 1), (1, 1)], [])) (v := (1, 1)) (pcN := 62) jI_10_59 rfl rfl rfl rfl rfl rfl rfl ?_
  refine jT_xlload_n (v := (1, 1)) (pcN := 63) jI_10_62 rfl rfl rfl ?_
  refine jT_xlmul (x := 1) (y := 1) (z := 1) (pcN := 64) jI_10_63 rfl (by decide) rfl ?_
  refine jT_callB [3, 2] (y := 9) (pcN := 67) (dC := 1) (bc1 := 0) (bc2 := 0) (c1 := 0) (c2 := 0) (as := [(4, 3), (4, 2), (1, 1)]) (asC := [(4, 0), (4, 1), (1, 1)]) (LN := [(8, (0, 6)), (7, (4, 2)), (0, (4, 0)), (1, (1, 1)), (3, (1, 1)), (5, (1, x2))]) (stN := [(4, 3)]) (hsC := [(4, [(4, (-1)), (1, 0)], []), (101, [], [x2, 0, 0, 0, 0, 0])]) (hsD := [(4, [(4, 1), (1, 1)], []), (101, [], [x2, 0, 0, 0, 0, 0])]) (v := (9, 0)) (st2 := [(4, 3)]) (hs2 := [(4, [(4, 1), (1, 1)], []), (101, [], [0, 0, 0, 0, 0, 0]), (101, [], [x2, 0, 0, 0, 0, 0]), (4, [(4, 2), (1, 1)], [])]) (jA_9_568 (d := 0) (by omega)) (by rfl) (by rfl) (by rfl) (by rfl) ⟨rfl, rfl, trivial⟩ (by rfl) (by rfl) (by omega) (by show 2 ≤ 4; omega) (by omega) (by omega) rfl rfl ?_
  exact jT_ret rfl (by decide) (by show 2 ≤ 4; decide) (by omega) (by omega) ⟨rfl, rfl, rfl⟩
theorem jA_16_570 {xs : List Int} {d : Nat} {x2 : Int} (h_x2 : 1 ≤ x2 ∧ x2 ≤ 200) : jT xs d 16 2 0 [(0, (4, 0))] [] [(4, [(4, 1), (1, 1)], []), (101, [], [x2, 0, 0, 0, 0, 0])] 0 0 (fun k v hsN => k = 0 ∧ v = (1, x2) ∧ hsN = [(4, [(4, 1), (1, 1)], []), (101, [], [x2, 0, 0, 0, 0, 0])] ++ []) := by
  refine jT_xlconst (z := 0) (pcN := 1) jI_16_0 rfl rfl ?_
  refine jT_xlstore_n (v := (1, 0)) (LN := [(1, (1, 0)), (0, (4, 0))]) (pcN := 2) jI_16_1 rfl rfl rfl rfl ?_
  refine jT_xiconst (k := 0) (pcN := 3) jI_16_2 rfl ?_
  refine jT_xistore_n (v := (0, 0)) (LN := [(3, (0, 0)), (1, (1, 0)), (0, (4, 0))]) (pcN := 4) jI_16_3 rfl rfl rfl rfl ?_
  refine jT_xiload_n (v := (0, 0)) (pcN := 5) jI_16_4 rfl rfl rfl ?_
  refine jT_xbipush (k := 6) (pcN := 7) jI_16_5 (by decide) rfl ?_
  refine jT_xicF (t := 30) (pcN := 10) jI_16_7 rfl (by decide +kernel) rfl rfl ?_
  refine jT_xlload_n (v := (1, 0)) (pcN := 11) jI_16_10 rfl rfl rfl ?_
  refine jT_xaload_n (v := (4, 0)) (pcN := 12) jI_16_11 rfl rfl rfl ?_
  refine jT_xgetf (a := 0) (t := 1) (ci := 4) (fi := 0) (c := (4, [(4, 1), (1, 1)], [])) (v := (4, 1)) (pcN := 15) jI_16_12 rfl rfl rfl rfl rfl rfl rfl ?_
  refine jT_xiload_n (v := (0, 0)) (pcN := 16) jI_16_15 rfl rfl rfl ?_
  refine jT_lald (x := x2) (a := 1) (j := 0) (fs := []) (X := [x2, 0, 0, 0, 0, 0]) jI_16_16 rfl rfl rfl rfl ?_
  refine jT_eq (LN := [(3, (0, 0)), (1, (1, 0)), (0, (4, 0))]) (stN := [(1, x2), (1, 0)]) (hsN := [(4, [(4, 1), (1, 1)], []), (101, [], [x2, 0, 0, 0, 0, 0])]) rfl rfl rfl ?_
  refine jT_labs (z := x2) (by rfl) (by rfl) (by rfl) (by rfl) (by rw [show jwl (x2) = x2 from jwl_idd (by omega) (by omega), decide_eq_false (by omega)]; first | rfl | (show (_ : Int) = _; simp only [cond_true, cond_false]; omega)) ?_
  refine jT_mm3 (x := 0) (y := x2) (z := x2) (by rfl) (by rfl) (by rfl) (by rfl) (jwl_idd (by omega) (by omega)) (jwl_idd (by omega) (by omega)) (by rw [decide_eq_false (show ¬ ((x2 : Int) < 0) by omega)]; rfl) ?_
  refine jT_xlstore_n (v := (1, x2)) (LN := [(1, (1, x2)), (3, (0, 0)), (0, (4, 0))]) (pcN := 24) jI_16_23 rfl rfl rfl rfl ?_
  refine jT_xiinc (x := 0) (z := 1) (LN := [(3, (0, 1)), (1, (1, x2)), (0, (4, 0))]) (pcN := 27) jI_16_24 rfl rfl (by decide) rfl rfl ?_
  refine jT_xgoto (pcN := 4) jI_16_27 rfl ?_
  refine jT_xiload_n (v := (0, 1)) (pcN := 5) jI_16_4 rfl rfl rfl ?_
  refine jT_xbipush (k := 6) (pcN := 7) jI_16_5 (by decide) rfl ?_
  refine jT_xicF (t := 30) (pcN := 10) jI_16_7 rfl (by decide +kernel) rfl rfl ?_
  refine jT_xlload_n (v := (1, x2)) (pcN := 11) jI_16_10 rfl rfl rfl ?_
  refine jT_xaload_n (v := (4, 0)) (pcN := 12) jI_16_11 rfl rfl rfl ?_
  refine jT_xgetf (a := 0) (t := 1) (ci := 4) (fi := 0) (c := (4, [(4, 1), (1, 1)], [])) (v := (4, 1)) (pcN := 15) jI_16_12 rfl rfl rfl rfl rfl rfl rfl ?_
  refine jT_xiload_n (v := (0, 1)) (pcN := 16) jI_16_15 rfl rfl rfl ?_
  refine jT_lald (x := 0) (a := 1) (j := 1) (fs := []) (X := [x2, 0, 0, 0, 0, 0]) jI_16_16 rfl rfl rfl rfl ?_
  refine jT_eq (LN := [(3, (0, 1)), (1, (1, x2)), (0, (4, 0))]) (stN := [(1, 0), (1, x2)]) (hsN := [(4, [(4, 1), (1, 1)], []), (101, [], [x2, 0, 0, 0, 0, 0])]) rfl rfl rfl ?_
  refine jT_labs (z := 0) (by rfl) (by rfl) (by rfl) (by rfl) (by decide +kernel) ?_
  refine jT_mm3 (x := x2) (y := 0) (z := x2) (by rfl) (by rfl) (by rfl) (by rfl) (jwl_idd (by omega) (by omega)) (jwl_idd (by omega) (by omega)) (by rw [decide_eq_true (show (0 : Int) < x2 by omega)]; rfl) ?_
  refine jT_xlstore_n (v := (1, x2)) (LN := [(1, (1, x2)), (3, (0, 1)), (0, (4, 0))]) (pcN := 24) jI_16_23 rfl rfl rfl rfl ?_
  refine jT_xiinc (x := 1) (z := 2) (LN := [(3, (0, 2)), (1, (1, x2)), (0, (4, 0))]) (pcN := 27) jI_16_24 rfl rfl (by decide) rfl rfl ?_
  refine jT_xgoto (pcN := 4) jI_16_27 rfl ?_
  refine jT_xiload_n (v := (0, 2)) (pcN := 5) jI_16_4 rfl rfl rfl ?_
  refine jT_xbipush (k := 6) (pcN := 7) jI_16_5 (by decide) rfl ?_
  refine jT_xicF (t := 30) (pcN := 10) jI_16_7 rfl (by decide +kernel) rfl rfl ?_
  refine jT_xlload_n (v := (1, x2)) (pcN := 11) jI_16_10 rfl rfl rfl ?_
  refine jT_xaload_n (v := (4, 0)) (pcN := 12) jI_16_11 rfl rfl rfl ?_
  refine jT_xgetf (a := 0) (t := 1) (ci := 4) (fi := 0) (c := (4, [(4, 1), (1, 1)], [])) (v := (4, 1)) (pcN := 15) jI_16_12 rfl rfl rfl rfl rfl rfl rfl ?_
  refine jT_xiload_n (v := (0, 2)) (pcN := 16) jI_16_15 rfl rfl rfl ?_
  refine jT_lald (x := 0) (a := 1) (j := 2) (fs := []) (X := [x2, 0, 0, 0, 0, 0]) jI_16_16 rfl rfl rfl rfl ?_
  refine jT_eq (LN := [(3, (0, 2)), (1, (1, x2)), (0, (4, 0))]) (stN := [(1, 0), (1, x2)]) (hsN := [(4, [(4, 1), (1, 1)], []), (101, [], [x2, 0, 0, 0, 0, 0])]) rfl rfl rfl ?_
  refine jT_labs (z := 0) (by rfl) (by rfl) (by rfl) (by rfl) (by decide +kernel) ?_
  refine jT_mm3 (x := x2) (y := 0) (z := x2) (by rfl) (by rfl) (by rfl) (by rfl) (jwl_idd (by omega) (by omega)) (jwl_idd (by omega) (by omega)) (by rw [decide_eq_true (show (0 : Int) < x2 by omega)]; rfl) ?_
  refine jT_xlstore_n (v := (1, x2)) (LN := [(1, (1, x2)), (3, (0, 2)), (0, (4, 0))]) (pcN := 24) jI_16_23 rfl rfl rfl rfl ?_
  refine jT_xiinc (x := 2) (z := 3) (LN := [(3, (0, 3)), (1, (1, x2)), (0, (4, 0))]) (pcN := 27) jI_16_24 rfl rfl (by decide) rfl rfl ?_
  refine jT_xgoto (pcN := 4) jI_16_27 rfl ?_
  refine jT_xiload_n (v := (0, 3)) (pcN := 5) jI_16_4 rfl rfl rfl ?_
  refine jT_xbipush (k := 6) (pcN := 7) jI_16_5 (by decide) rfl ?_
  refine jT_xicF (t := 30) (pcN := 10) jI_16_7 rfl (by decide +kernel) rfl rfl ?_
  refine jT_xlload_n (v := (1, x2)) (pcN := 11) jI_16_10 rfl rfl rfl ?_
  refine jT_xaload_n (v := (4, 0)) (pcN := 12) jI_16_11 rfl rfl rfl ?_
  refine jT_xgetf (a := 0) (t := 1) (ci := 4) (fi := 0) (c := (4, [(4, 1), (1, 1)], [])) (v := (4, 1)) (pcN := 15) jI_16_12 rfl rfl rfl rfl rfl rfl rfl ?_
  refine jT_xiload_n (v := (0, 3)) (pcN := 16) jI_16_15 rfl rfl rfl ?_
  refine jT_lald (x := 0) (a := 1) (j := 3) (fs := []) (X := [x2, 0, 0, 0, 0, 0]) jI_16_16 rfl rfl rfl rfl ?_
  refine jT_eq (LN := [(3, (0, 3)), (1, (1, x2)), (0, (4, 0))]) (stN := [(1, 0), (1, x2)]) (hsN := [(4, [(4, 1), (1, 1)], []), (101, [], [x2, 0, 0, 0, 0, 0])]) rfl rfl rfl ?_
  refine jT_labs (z := 0) (by rfl) (by rfl) (by rfl) (by rfl) (by decide +kernel) ?_
  refine jT_mm3 (x := x2) (y := 0) (z := x2) (by rfl) (by rfl) (by rfl) (by rfl) (jwl_idd (by omega) (by omega)) (jwl_idd (by omega) (by omega)) (by rw [decide_eq_true (show (0 : Int) < x2 by omega)]; rfl) ?_
  refine jT_xlstore_n (v := (1, x2)) (LN := [(1, (1, x2)), (3, (0, 3)), (0, (4, 0))]) (pcN := 24) jI_16_23 rfl rfl rfl rfl ?_
  refine jT_xiinc (x := 3) (z := 4) (LN := [(3, (0, 4)), (1, (1, x2)), (0, (4, 0))]) (pcN := 27) jI_16_24 rfl rfl (by decide) rfl rfl ?_
  refine jT_xgoto (pcN := 4) jI_16_27 rfl ?_
  refine jT_xiload_n (v := (0, 4)) (pcN := 5) jI_16_4 rfl rfl rfl ?_
  refine jT_xbipush (k := 6) (pcN := 7) jI_16_5 (by decide) rfl ?_
  refine jT_xicF (t := 30) (pcN := 10) jI_16_7 rfl (by decide +kernel) rfl rfl ?_
  refine jT_xlload_n (v := (1, x2)) (pcN := 11) jI_16_10 rfl rfl rfl ?_
  refine jT_xaload_n (v := (4, 0)) (pcN := 12) jI_16_11 rfl rfl rfl ?_
  refine jT_xgetf (a := 0) (t := 1) (ci := 4) (fi := 0) (c := (4, [(4, 1), (1, 1)], [])) (v := (4, 1)) (pcN := 15) jI_16_12 rfl rfl rfl rfl rfl rfl rfl ?_
  refine jT_xiload_n (v := (0, 4)) (pcN := 16) jI_16_15 rfl rfl rfl ?_
  refine jT_lald (x := 0) (a := 1) (j := 4) (fs := []) (X := [x2, 0, 0, 0, 0, 0]) jI_16_16 rfl rfl rfl rfl ?_
  refine jT_eq (LN := [(3, (0, 4)), (1, (1, x2)), (0, (4, 0))]) (stN := [(1, 0), (1, x2)]) (hsN := [(4, [(4, 1), (1, 1)], []), (101, [], [x2, 0, 0, 0, 0, 0])]) rfl rfl rfl ?_
  refine jT_labs (z := 0) (by rfl) (by rfl) (by rfl) (by rfl) (by decide +kernel) ?_
  refine jT_mm3 (x := x2) (y := 0) (z := x2) (by rfl) (by rfl) (by rfl) (by rfl) (jwl_idd (by omega) (by omega)) (jwl_idd (by omega) (by omega)) (by rw [decide_eq_true (show (0 : Int) < x2 by omega)]; rfl) ?_
  refine jT_xlstore_n (v := (1, x2)) (LN := [(1, (1, x2)), (3, (0, 4)), (0, (4, 0))]) (pcN := 24) jI_16_23 rfl rfl rfl rfl ?_
  refine jT_xiinc (x := 4) (z := 5) (LN := [(3, (0, 5)), (1, (1, x2)), (0, (4, 0))]) (pcN := 27) jI_16_24 rfl rfl (by decide) rfl rfl ?_
  refine jT_xgoto (pcN := 4) jI_16_27 rfl ?_
  refine jT_xiload_n (v := (0, 5)) (pcN := 5) jI_16_4 rfl rfl rfl ?_
  refine jT_xbipush (k := 6) (pcN := 7) jI_16_5 (by decide) rfl ?_
  refine jT_xicF (t := 30) (pcN := 10) jI_16_7 rfl (by decide +kernel) rfl rfl ?_
  refine jT_xlload_n (v := (1, x2)) (pcN := 11) jI_16_10 rfl rfl rfl ?_
  refine jT_xaload_n (v := (4, 0)) (pcN := 12) jI_16_11 rfl rfl rfl ?_
  refine jT_xgetf (a := 0) (t := 1) (ci := 4) (fi := 0) (c := (4, [(4, 1), (1, 1)], [])) (v := (4, 1)) (pcN := 15) jI_16_12 rfl rfl rfl rfl rfl rfl rfl ?_
  refine jT_xiload_n (v := (0, 5)) (pcN := 16) jI_16_15 rfl rfl rfl ?_
  refine jT_lald (x := 0) (a := 1) (j := 5) (fs := []) (X := [x2, 0, 0, 0, 0, 0]) jI_16_16 rfl rfl rfl rfl ?_
  refine jT_eq (LN := [(3, (0, 5)), (1, (1, x2)), (0, (4, 0))]) (stN := [(1, 0), (1, x2)]) (hsN := [(4, [(4, 1), (1, 1)], []), (101, [], [x2, 0, 0, 0, 0, 0])]) rfl rfl rfl ?_
  refine jT_labs (z := 0) (by rfl) (by rfl) (by rfl) (by rfl) (by decide +kernel) ?_
  refine jT_mm3 (x := x2) (y := 0) (z := x2) (by rfl) (by rfl) (by rfl) (by rfl) (jwl_idd (by omega) (by omega)) (jwl_idd (by omega) (by omega)) (by rw [decide_eq_true (show (0 : Int) < x2 by omega)]; rfl) ?_
  refine jT_xlstore_n (v := (1, x2)) (LN := [(1, (1, x2)), (3, (0, 5)), (0, (4, 0))]) (pcN := 24) jI_16_23 rfl rfl rfl rfl ?_
  refine jT_xiinc (x := 5) (z := 6) (LN := [(3, (0, 6)), (1, (1, x2)), (0, (4, 0))]) (pcN := 27) jI_16_24 rfl rfl (by decide) rfl rfl ?_
  refine jT_xgoto (pcN := 4) jI_16_27 rfl ?_
  refine jT_xiload_n (v := (0, 6)) (pcN := 5) jI_16_4 rfl rfl rfl ?_
  refine jT_xbipush (k := 6) (pcN := 7) jI_16_5 (by decide) rfl ?_
  refine jT_xicT (pcN := 30) jI_16_7 rfl (by decide +kernel) rfl ?_
  refine jT_xlload_n (v := (1, x2)) (pcN := 31) jI_16_30 rfl rfl rfl ?_
  exact jT_ret rfl (by decide) (by show 2 ≤ 2; decide) (by omega) (by omega) ⟨rfl, rfl, rfl⟩
theorem jA_15_571 {xs : List Int} {d : Nat} {x2 : Int} (h_x2 : 1 ≤ x2 ∧ x2 ≤ 200) : jT xs (d + 1) 15 2 0 [(0, (4, 0))] [] [(4, [(4, 1), (1, 1)], []), (101, [], [x2, 0, 0, 0, 0, 0])] 0 0 (fun k v hsN => k = 0 ∧ v = (0, 1) ∧ hsN = [(4, [(4, 1), (1, 1)], []), (101, [], [x2, 0, 0, 0, 0, 0])] ++ []) := by
  refine jT_xaload_n (v := (4, 0)) (pcN := 1) jI_15_0 rfl rfl rfl ?_
  refine jT_xgetf (a := 0) (t := 1) (ci := 4) (fi := 1) (c := (4, [(4, 1), (1, 1)], [])) (v := (1, 1)) (pcN := 4) jI_15_1 rfl rfl rfl rfl rfl rfl rfl ?_
  refine jT_adv 1 (pcN := 7) (LN := [(0, (4, 0))]) (stN := [(1, 360), (1, 1)]) (hsN := [(4, [(4, 1), (1, 1)], []), (101, [], [x2, 0, 0, 0, 0, 0])]) (c1 := 0) (s1 := 0) (c2 := 0) (s2 := 0) (by exact rfl) ?_ (by omega) (by omega)
  refine jT_lcmp (a := 1) (b := 360) (z := (-1)) (by rfl) (by rfl) (by decide +kernel) (by decide +kernel) (by decide) ?_
  refine jT_xifF (t := 26) (pcN := 11) jI_15_8 rfl (by decide +kernel) rfl rfl ?_
  refine jT_xaload_n (v := (4, 0)) (pcN := 12) jI_15_11 rfl rfl rfl ?_
  refine jT_callA [0, 1] (y := 16) (pcN := 15) (dC := 0) (bc1 := 0) (bc2 := 0) (c1 := 0) (c2 := 0) (as := [(4, 0)]) (asC := [(4, 0)]) (LN := [(0, (4, 0))]) (stN := []) (hsC := [(4, [(4, 1), (1, 1)], []), (101, [], [x2, 0, 0, 0, 0, 0])]) (ex := []) (v := (1, x2)) (st2 := [(1, x2)]) (hs2 := [(4, [(4, 1), (1, 1)], []), (101, [], [x2, 0, 0, 0, 0, 0])]) (jA_16_570 (d := 0) (by omega)) (by rfl) (by rfl) (by rfl) (by rfl) ⟨rfl, rfl, trivial⟩ (by rfl) (by rfl) (by omega) (by show 2 ≤ 2; omega) (by omega) (by omega) rfl rfl ?_
  refine jT_adv 1 (pcN := 18) (LN := [(0, (4, 0))]) (stN := [(1, 5000), (1, x2)]) (hsN := [(4, [(4, 1), (1, 1)], []), (101, [], [x2, 0, 0, 0, 0, 0])]) (c1 := 0) (s1 := 0) (c2 := 0) (s2 := 0) (by exact rfl) ?_ (by omega) (by omega)
  refine jT_lcmp (a := x2) (b := 5000) (z := (-1)) (by rfl) (by rfl) (jwl_idd (by omega) (by omega)) (jwl_idd (by omega) (by omega)) (by rw [decide_eq_false (show ¬ ((5000 : Int) < x2) by omega), decide_eq_false (show ¬ ((x2 : Int) = 5000) by omega)]; rfl) ?_
  refine jT_xifF (t := 26) (pcN := 22) jI_15_19 rfl (by decide +kernel) rfl rfl ?_
  refine jT_xiconst (k := 1) (pcN := 23) jI_15_22 rfl ?_
  refine jT_xgoto (pcN := 27) jI_15_23 rfl ?_
  exact jT_ret rfl (by decide) (by show 2 ≤ 2; decide) (by omega) (by omega) ⟨rfl, rfl, rfl⟩
theorem jA_117_572 {xs : List Int} {d : Nat} {x2 : Int} (h_x2 : 1 ≤ x2 ∧ x2 ≤ 200) : jT xs (d + 2) 117 3 0 [(0, (4, 0)), (1, (4, 1))] [] [jgh, (4, [(4, 2), (1, 1)], []), (101, [], [x2, 0, 0, 0, 0, 0])] 0 0 (fun k v hsN => k = 0 ∧ v = (9, 0) ∧ hsN = [jgh, (4, [(4, 2), (1, 1)], []), (101, [], [x2, 0, 0, 0, 0, 0])] ++ []) := by
  refine jT_xaload_n (v := (4, 1)) (pcN := 1) jI_117_0 rfl rfl rfl ?_
  refine jT_adv 1 (pcN := 4) (LN := [(0, (4, 0)), (1, (4, 1))]) (stN := []) (hsN := [jgh, (4, [(4, 2), (1, 1)], []), (101, [], [x2, 0, 0, 0, 0, 0])]) (c1 := 0) (s1 := 0) (c2 := 0) (s2 := 0) (by exact rfl) ?_ (by omega) (by omega)
  refine jT_xaload_n (v := (4, 1)) (pcN := 5) jI_117_4 rfl rfl rfl ?_
  refine jT_callA [1, 2] (y := 15) (pcN := 8) (dC := 1) (bc1 := 0) (bc2 := 0) (c1 := 0) (c2 := 0) (as := [(4, 1)]) (asC := [(4, 0)]) (LN := [(0, (4, 0)), (1, (4, 1))]) (stN := []) (hsC := [(4, [(4, 1), (1, 1)], []), (101, [], [x2, 0, 0, 0, 0, 0])]) (ex := []) (v := (0, 1)) (st2 := [(0, 1)]) (hs2 := [jgh, (4, [(4, 2), (1, 1)], []), (101, [], [x2, 0, 0, 0, 0, 0])]) (jA_15_571 (d := 0) (by omega)) (by rfl) (by rfl) (by rfl) (by rfl) ⟨rfl, rfl, trivial⟩ (by rfl) (by rfl) (by omega) (by show 3 ≤ 3; omega) (by omega) (by omega) rfl rfl ?_
  refine jT_xifT (pcN := 22) jI_117_8 rfl (by decide +kernel) rfl ?_
  exact jT_ret rfl (by decide) (by show 3 ≤ 3; decide) (by omega) (by omega) ⟨rfl, rfl, rfl⟩
theorem jA_132_573 {xs : List Int} {d : Nat} {x2 x3 : Int} (h_x2 : 1 ≤ x2 ∧ x2 ≤ 200) (h_x3 : 0 ≤ x3 ∧ x3 ≤ 7) : jT xs (d + 3) 132 24 0 [(0, (4, 0)), (1, (0, 0)), (2, (0, x2)), (3, (0, x3))] [] jpA_2219 4 21 (fun k v hsN => k = 0 ∧ v = (0, 0) ∧ hsN = [jzA_2217, jgh, jgh, jgh, jgh, jgh, jgh, jgh, jgh, jgh, jzA_102, jzA_88, jzA_89, (117, [], [18, 19, 20, 21]), jgh, jgh, jgh, (4, [(4, 22), (1, 1)], []), (7, [(4, 23), (4, (-1)), (4, (-1))], []), jgh, jgh, jgh, (101, [], [0, 0, 0, 0, 0, 0]), (114, [], [17]), (101, [], [x2, 0, 0, 0, 0, 0]), (4, [(4, 24), (1, 1)], []), jgh, jzA_2216]) := by
  refine jT_xaload_n (v := (4, 0)) (pcN := 1) jI_132_0 rfl rfl rfl ?_
  refine jT_xiload_n (v := (0, 0)) (pcN := 2) jI_132_1 rfl rfl rfl ?_
  refine jT_xiconst (k := 4) (pcN := 3) jI_132_2 rfl ?_
  refine jT_fR [0] 24 (y := 115) (pcN := 6) (dC := 0) (bc1 := 0) (bc2 := 0) (c1 := 4) (c2 := 21) (as := [(4, 0), (0, 0), (0, 4)]) (asC := [(4, 0), (0, 0), (0, 4)]) (LN := [(0, (4, 0)), (1, (0, 0)), (2, (0, x2)), (3, (0, x3))]) (stN := []) (hsC := [jgh]) (v := (9, 0)) (st2 := []) (jA_115_321 (d := 0)) (by rfl) (by rfl) (by decide +kernel) (by rfl) (by rfl) (by omega) (by omega) (by omega) (by omega) rfl ?_
  refine jT_xaload_n (v := (4, 0)) (pcN := 7) jI_132_6 rfl rfl rfl ?_
  refine jT_xiload_n (v := (0, x3)) (pcN := 8) jI_132_7 rfl rfl rfl ?_
  refine jT_xbipush (k := 8) (pcN := 10) jI_132_8 (by decide) rfl ?_
  refine jT_fR [0] 24 (y := 115) (pcN := 13) (dC := 0) (bc1 := 0) (bc2 := 0) (c1 := 4) (c2 := 21) (as := [(4, 0), (0, x3), (0, 8)]) (asC := [(4, 0), (0, x3), (0, 8)]) (LN := [(0, (4, 0)), (1, (0, 0)), (2, (0, x2)), (3, (0, x3))]) (stN := []) (hsC := [jgh]) (v := (9, 0)) (st2 := []) (jA_115_23 (d := 0) (by omega)) (by rfl) (by rfl) (by decide +kernel) (by rfl) (by rfl) (by omega) (by omega) (by omega) (by omega) rfl ?_
  refine jT_xaload_n (v := (4, 0)) (pcN := 14) jI_132_13 rfl rfl rfl ?_
  refine jT_xiload_n (v := (0, x2)) (pcN := 15) jI_132_14 rfl rfl rfl ?_
  refine jT_xsipush (k := (-200)) (pcN := 18) jI_132_15 (by decide) rfl ?_
  refine jT_xsipush (k := 200) (pcN := 21) jI_132_18 (by decide) rfl ?_
  refine jT_fR [0] 24 (y := 116) (pcN := 24) (dC := 0) (bc1 := 0) (bc2 := 0) (c1 := 4) (c2 := 21) (as := [(4, 0), (0, x2), (0, (-200)), (0, 200)]) (asC := [(4, 0), (0, x2), (0, (-200)), (0, 200)]) (LN := [(0, (4, 0)), (1, (0, 0)), (2, (0, x2)), (3, (0, x3))]) (stN := []) (hsC := [jgh]) (v := (9, 0)) (st2 := []) (jA_116_566 (d := 0) (by omega)) (by rfl) (by rfl) (by decide +kernel) (by rfl) (by rfl) (by omega) (by omega) (by omega) (by omega) rfl ?_
  refine jT_xaload_n (v := (4, 0)) (pcN := 25) jI_132_24 rfl rfl rfl ?_
  refine jT_xgetf (a := 0) (t := 1) (ci := 13) (fi := 11) (c := jzA_5) (v := (4, 11)) (pcN := 28) jI_132_25 rfl rfl rfl rfl rfl rfl rfl ?_
  refine jT_xiload_n (v := (0, 0)) (pcN := 29) jI_132_28 rfl rfl rfl ?_
  refine jT_fR [11, 12, 13, 14, 15, 16, 18, 19, 20, 21] 24 (y := 56) (pcN := 32) (dC := 0) (bc1 := 0) (bc2 := 0) (c1 := 4) (c2 := 21) (as := [(4, 11), (0, 0)]) (asC := [(4, 0), (0, 0)]) (LN := [(0, (4, 0)), (1, (0, 0)), (2, (0, x2)), (3, (0, x3))]) (stN := []) (hsC := jpA_1446) (v := (4, 6)) (st2 := [(4, 18)]) (jA_56_322 (d := 0)) (by rfl) (by rfl) (by decide +kernel) (by rfl) (by rfl) (by omega) (by omega) (by omega) (by omega) rfl ?_
  refine jT_xastore (v := (4, 18)) (LN := [(4, (4, 18)), (0, (4, 0)), (1, (0, 0)), (2, (0, x2)), (3, (0, x3))]) (pcN := 34) jI_132_32 rfl rfl rfl rfl ?_
  refine jT_xiconst (k := 1) (pcN := 35) jI_132_34 rfl ?_
  refine jT_xaload (v := (4, 18)) (pcN := 37) jI_132_35 rfl rfl rfl ?_
  refine jT_fR [18, 23, 17] 24 (y := 29) (pcN := 40) (dC := 0) (bc1 := 0) (bc2 := 0) (c1 := 4) (c2 := 21) (as := [(4, 18)]) (asC := [(4, 0)]) (LN := [(4, (4, 18)), (0, (4, 0)), (1, (0, 0)), (2, (0, x2)), (3, (0, x3))]) (stN := [(0, 1)]) (hsC := [(7, [(4, 1), (4, (-1)), (4, (-1))], []), (114, [], [2]), jgh]) (v := (0, 1)) (st2 := [(0, 1), (0, 1)]) (jA_29_416 (d := 0)) (by rfl) (by rfl) (by decide +kernel) (by rfl) (by rfl) (by omega) (by omega) (by omega) (by omega) rfl ?_
  refine jT_mm0 (x := 1) (y := 1) (z := 1) (by rfl) (by rfl) (by rfl) (by rfl) (jw_idd (by omega) (by omega)) (jw_idd (by omega) (by omega)) (by rw [decide_eq_false (show ¬ ((1 : Int) < 1) by omega)]; rfl) ?_
  refine jT_xistore (v := (0, 1)) (LN := [(5, (0, 1)), (4, (4, 18)), (0, (4, 0)), (1, (0, 0)), (2, (0, x2)), (3, (0, x3))]) (pcN := 45) jI_132_43 rfl rfl rfl rfl ?_
  refine jT_xiload_n (v := (0, x2)) (pcN := 46) jI_132_45 rfl rfl rfl ?_
  refine jT_xiload (v := (0, 1)) (pcN := 48) jI_132_46 rfl rfl rfl ?_
  refine jT_fR [] 24 (y := 375) (pcN := 51) (dC := 0) (bc1 := 0) (bc2 := 0) (c1 := 4) (c2 := 21) (as := [(0, x2), (0, 1)]) (asC := [(0, x2), (0, 1)]) (LN := [(5, (0, 1)), (4, (4, 18)), (0, (4, 0)), (1, (0, 0)), (2, (0, x2)), (3, (0, x3))]) (stN := []) (hsC := []) (v := (0, x2 % 1)) (st2 := [(0, x2 % 1)]) (jT_fmI1 (d := 0) (x := x2) (by omega)) (by rfl) (by rfl) (by decide +kernel) (by rfl) (by rfl) (by omega) (by omega) (by omega) (by omega) rfl ?_
  refine jT_eq (LN := [(5, (0, 1)), (4, (4, 18)), (0, (4, 0)), (1, (0, 0)), (2, (0, x2)), (3, (0, x3))]) (stN := [(0, 0)]) (hsN := [jzA_5, jgh, jgh, jgh, jgh, jgh, jgh, jgh, jgh, jgh, jzA_79, jzA_88, jzA_89, (117, [], [18, 19, 20, 21]), jgh, jgh, jgh, (4, [(4, 22), (1, 1)], []), (7, [(4, 23), (4, (-1)), (4, (-1))], []), jgh, jgh, jgh, (101, [], [0, 0, 0, 0, 0, 0]), (114, [], [17])]) (rfl) (by simp only [List.cons.injEq, Prod.mk.injEq, and_true, true_and] <;> ((try unfold jw); (try unfold jwl); omega)) (rfl) ?_
  refine jT_xistore (v := (0, 0)) (LN := [(6, (0, 0)), (5, (0, 1)), (4, (4, 18)), (0, (4, 0)), (1, (0, 0)), (2, (0, x2)), (3, (0, x3))]) (pcN := 53) jI_132_51 rfl rfl rfl rfl ?_
  refine jT_xaload (v := (4, 18)) (pcN := 55) jI_132_53 rfl rfl rfl ?_
  refine jT_xiload (v := (0, 0)) (pcN := 57) jI_132_55 rfl rfl rfl ?_
  refine jT_fR [18, 23, 17] 24 (y := 30) (pcN := 60) (dC := 0) (bc1 := 0) (bc2 := 0) (c1 := 4) (c2 := 21) (as := [(4, 18), (0, 0)]) (asC := [(4, 0), (0, 0)]) (LN := [(6, (0, 0)), (5, (0, 1)), (4, (4, 18)), (0, (4, 0)), (1, (0, 0)), (2, (0, x2)), (3, (0, x3))]) (stN := []) (hsC := [(7, [(4, 1), (4, (-1)), (4, (-1))], []), (114, [], [2]), jgh]) (v := (4, 2)) (st2 := [(4, 17)]) (jA_30_538 (d := 0)) (by rfl) (by rfl) (by decide +kernel) (by rfl) (by rfl) (by omega) (by omega) (by omega) (by omega) rfl ?_
  refine jT_xlconst (z := 1) (pcN := 61) jI_132_60 rfl rfl ?_
  refine jT_xlconst (z := 1) (pcN := 62) jI_132_61 rfl rfl ?_
  refine jT_xiload_n (v := (0, x2)) (pcN := 63) jI_132_62 rfl rfl rfl ?_
  refine jT_xiload (v := (0, 1)) (pcN := 65) jI_132_63 rfl rfl rfl ?_
  refine jT_fR [] 24 (y := 376) (pcN := 68) (dC := 0) (bc1 := 0) (bc2 := 0) (c1 := 4) (c2 := 21) (as := [(0, x2), (0, 1)]) (asC := [(0, x2), (0, 1)]) (LN := [(6, (0, 0)), (5, (0, 1)), (4, (4, 18)), (0, (4, 0)), (1, (0, 0)), (2, (0, x2)), (3, (0, x3))]) (stN := [(1, 1), (1, 1), (4, 17)]) (hsC := []) (v := (0, x2 / 1)) (st2 := [(0, x2 / 1), (1, 1), (1, 1), (4, 17)]) (jT_fdI1 (d := 0) (x := x2) (by omega)) (by rfl) (by rfl) (by decide +kernel) (by rfl) (by rfl) (by omega) (by omega) (by omega) (by omega) rfl ?_
  refine jT_eq (LN := [(6, (0, 0)), (5, (0, 1)), (4, (4, 18)), (0, (4, 0)), (1, (0, 0)), (2, (0, x2)), (3, (0, x3))]) (stN := [(0, x2), (1, 1), (1, 1), (4, 17)]) (hsN := [jzA_5, jgh, jgh, jgh, jgh, jgh, jgh, jgh, jgh, jgh, jzA_79, jzA_88, jzA_89, (117, [], [18, 19, 20, 21]), jgh, jgh, jgh, (4, [(4, 22), (1, 1)], []), (7, [(4, 23), (4, (-1)), (4, (-1))], []), jgh, jgh, jgh, (101, [], [0, 0, 0, 0, 0, 0]), (114, [], [17])]) (rfl) (by simp only [List.cons.injEq, Prod.mk.injEq, and_true, true_and] <;> ((try unfold jw); (try unfold jwl); omega)) (rfl) ?_
  refine jT_xi2l (x := x2) (z := x2) (pcN := 69) jI_132_68 rfl (jw_idd (by omega) (by omega)) rfl ?_
  refine jT_fA [17, 22] 24 (y := 10) (pcN := 72) (dC := 2) (bc1 := 2) (bc2 := 8) (c1 := 2) (c2 := 13) (as := [(4, 17), (1, 1), (1, 1), (1, x2)]) (asC := [(4, 0), (1, 1), (1, 1), (1, x2)]) (LN := [(6, (0, 0)), (5, (0, 1)), (4, (4, 18)), (0, (4, 0)), (1, (0, 0)), (2, (0, x2)), (3, (0, x3))]) (stN := []) (hsC := [(4, [(4, 1), (1, 1)], []), (101, [], [0, 0, 0, 0, 0, 0])]) (ex := [(101, [], [x2, 0, 0, 0, 0, 0]), (4, [(4, 2), (1, 1)], [])]) (v := (4, 3)) (st2 := [(4, 25)]) (hs2 := [jzA_5, jgh, jgh, jgh, jgh, jgh, jgh, jgh, jgh, jgh, jzA_79, jzA_88, jzA_89, (117, [], [18, 19, 20, 21]), jgh, jgh, jgh, (4, [(4, 22), (1, 1)], []), (7, [(4, 23), (4, (-1)), (4, (-1))], []), jgh, jgh, jgh, (101, [], [0, 0, 0, 0, 0, 0]), (114, [], [17]), (101, [], [x2, 0, 0, 0, 0, 0]), (4, [(4, 24), (1, 1)], [])]) (jA_10_569 (d := 0) (by omega)) (by rfl) (by rfl) (by decide +kernel) (by rfl) (by rfl) (by omega) (by omega) (by omega) (by omega) rfl rfl ?_
  refine jT_xastore (v := (4, 25)) (LN := [(7, (4, 25)), (6, (0, 0)), (5, (0, 1)), (4, (4, 18)), (0, (4, 0)), (1, (0, 0)), (2, (0, x2)), (3, (0, x3))]) (pcN := 74) jI_132_72 rfl rfl rfl rfl ?_
  refine jT_xaload_n (v := (4, 0)) (pcN := 75) jI_132_74 rfl rfl rfl ?_
  refine jT_xaload (v := (4, 25)) (pcN := 77) jI_132_75 rfl rfl rfl ?_
  refine jT_callA [0, 25, 24] (y := 117) (pcN := 80) (dC := 2) (bc1 := 0) (bc2 := 0) (c1 := 2) (c2 := 13) (as := [(4, 0), (4, 25)]) (asC := [(4, 0), (4, 1)]) (LN := [(7, (4, 25)), (6, (0, 0)), (5, (0, 1)), (4, (4, 18)), (0, (4, 0)), (1, (0, 0)), (2, (0, x2)), (3, (0, x3))]) (stN := []) (hsC := [jgh, (4, [(4, 2), (1, 1)], []), (101, [], [x2, 0, 0, 0, 0, 0])]) (ex := []) (v := (9, 0)) (st2 := []) (hs2 := [jzA_5, jgh, jgh, jgh, jgh, jgh, jgh, jgh, jgh, jgh, jzA_79, jzA_88, jzA_89, (117, [], [18, 19, 20, 21]), jgh, jgh, jgh, (4, [(4, 22), (1, 1)], []), (7, [(4, 23), (4, (-1)), (4, (-1))], []), jgh, jgh, jgh, (101, [], [0, 0, 0, 0, 0, 0]), (114, [], [17]), (101, [], [x2, 0, 0, 0, 0, 0]), (4, [(4, 24), (1, 1)], [])]) (jA_117_572 (d := 0) (by omega)) (by rfl) (by rfl) (by rfl) (by rfl) ⟨rfl, rfl, rfl, trivial⟩ (by rfl) (by rfl) (by omega) (by show 24 ≤ 26; omega) (by omega) (by omega) rfl rfl ?_
  refine jT_xaload_n (v := (4, 0)) (pcN := 81) jI_132_80 rfl rfl rfl ?_
  refine jT_xaload_n (v := (4, 0)) (pcN := 82) jI_132_81 rfl rfl rfl ?_
  refine jT_xgetf (a := 0) (t := 1) (ci := 13) (fi := 11) (c := jzA_5) (v := (4, 11)) (pcN := 85) jI_132_82 rfl rfl rfl rfl rfl rfl rfl ?_
  refine jT_xiload_n (v := (0, x3)) (pcN := 86) jI_132_85 rfl rfl rfl ?_
  refine jT_xaload (v := (4, 25)) (pcN := 88) jI_132_86 rfl rfl rfl ?_
  refine jT_callA [11, 25, 12, 13, 14, 15, 16, 24, 17] (y := 58) (pcN := 91) (dC := 1) (bc1 := 2) (bc2 := 13) (c1 := 0) (c2 := 0) (as := [(4, 11), (0, x3), (4, 25)]) (asC := [(4, 0), (0, x3), (4, 1)]) (LN := [(7, (4, 25)), (6, (0, 0)), (5, (0, 1)), (4, (4, 18)), (0, (4, 0)), (1, (0, 0)), (2, (0, x2)), (3, (0, x3))]) (stN := [(4, 0)]) (hsC := jpA_74) (ex := [jgh, jzA_72]) (v := (4, 10)) (st2 := [(4, 27), (4, 0)]) (hs2 := [jzA_5, jgh, jgh, jgh, jgh, jgh, jgh, jgh, jgh, jgh, jzA_79, jzA_88, jzA_89, (117, [], [18, 19, 20, 21]), jgh, jgh, jgh, (4, [(4, 22), (1, 1)], []), (7, [(4, 23), (4, (-1)), (4, (-1))], []), jgh, jgh, jgh, (101, [], [0, 0, 0, 0, 0, 0]), (114, [], [17]), (101, [], [x2, 0, 0, 0, 0, 0]), (4, [(4, 24), (1, 1)], []), jgh, jzA_2216]) (jA_58_181 (d := 0) (by omega)) (by rfl) (by rfl) (by rfl) (by rfl) ⟨rfl, rfl, rfl, rfl, rfl, rfl, rfl, rfl, rfl, trivial⟩ (by rfl) (by rfl) (by omega) (by show 24 ≤ 26; omega) (by omega) (by omega) rfl rfl ?_
  refine jT_callB [0, 27, 1, 2, 3, 4, 5, 6, 7, 8, 9, 10, 11, 12, 13, 14, 15, 16] (y := 100) (pcN := 94) (dC := 0) (bc1 := 0) (bc2 := 0) (c1 := 0) (c2 := 0) (as := [(4, 0), (4, 27)]) (asC := [(4, 0), (4, 1)]) (LN := [(7, (4, 25)), (6, (0, 0)), (5, (0, 1)), (4, (4, 18)), (0, (4, 0)), (1, (0, 0)), (2, (0, x2)), (3, (0, x3))]) (stN := []) (hsC := jpA_80) (hsD := jpA_78) (v := (9, 0)) (st2 := []) (hs2 := [jzA_2217, jgh, jgh, jgh, jgh, jgh, jgh, jgh, jgh, jgh, jzA_102, jzA_88, jzA_89, (117, [], [18, 19, 20, 21]), jgh, jgh, jgh, (4, [(4, 22), (1, 1)], []), (7, [(4, 23), (4, (-1)), (4, (-1))], []), jgh, jgh, jgh, (101, [], [0, 0, 0, 0, 0, 0]), (114, [], [17]), (101, [], [x2, 0, 0, 0, 0, 0]), (4, [(4, 24), (1, 1)], []), jgh, jzA_2216]) (jA_100_34 (d := 0)) (by rfl) (by rfl) (by rfl) (by rfl) ⟨rfl, rfl, rfl, rfl, rfl, rfl, rfl, rfl, rfl, rfl, rfl, rfl, rfl, rfl, rfl, rfl, rfl, rfl, trivial⟩ (by rfl) (by rfl) (by omega) (by show 24 ≤ 28; omega) (by omega) (by omega) rfl rfl ?_
  refine jT_xiload (v := (0, 0)) (pcN := 96) jI_132_94 rfl rfl rfl ?_
  exact jT_ret rfl (by decide) (by show 24 ≤ 28; decide) (by omega) (by omega) ⟨rfl, rfl, rfl⟩
theorem jA_339_574 {xs : List Int} {d : Nat} {x2 x3 : Int} (h_x2 : 1 ≤ x2 ∧ x2 ≤ 200) (h_x3 : 0 ≤ x3 ∧ x3 ≤ 7) : jT xs (d + 4) 339 25 0 [(0, (4, 0)), (1, (0, 0)), (2, (0, x2)), (3, (0, x3)), (4, (4, 1))] [] jpA_2225 4 21 (fun k v hsN => k = 0 ∧ v = (0, 0) ∧ hsN = [jzA_2220, (101, [], [0]), jgh, jgh, jgh, jgh, jgh, jgh, jgh, jgh, jgh, jzA_76, jzA_77, jzA_109, (117, [], [19, 20, 21, 22]), jgh, jgh, jgh, (4, [(4, 23), (1, 1)], []), (7, [(4, 24), (4, (-1)), (4, (-1))], []), jgh, jgh, jgh, (101, [], [0, 0, 0, 0, 0, 0]), (114, [], [18]), (101, [], [x2, 0, 0, 0, 0, 0]), (4, [(4, 25), (1, 1)], []), jgh, jzA_2221]) := by
  refine jT_xaload (v := (4, 1)) (pcN := 2) jI_339_0 rfl rfl rfl ?_
  refine jT_xiconst (k := 0) (pcN := 3) jI_339_2 rfl ?_
  refine jT_xaload_n (v := (4, 0)) (pcN := 4) jI_339_3 rfl rfl rfl ?_
  refine jT_xiload_n (v := (0, 0)) (pcN := 5) jI_339_4 rfl rfl rfl ?_
  refine jT_xiload_n (v := (0, x2)) (pcN := 6) jI_339_5 rfl rfl rfl ?_
  refine jT_xiload_n (v := (0, x3)) (pcN := 7) jI_339_6 rfl rfl rfl ?_
  refine jT_fB [0, 2, 3, 4, 5, 6, 7, 8, 9, 10, 11, 12, 13, 14, 15, 16, 17, 18, 19, 20, 21, 22, 23, 24] 25 (y := 132) (pcN := 10) (dC := 3) (bc1 := 4) (bc2 := 21) (c1 := 0) (c2 := 0) (as := [(4, 0), (0, 0), (0, x2), (0, x3)]) (asC := [(4, 0), (0, 0), (0, x2), (0, x3)]) (LN := [(0, (4, 0)), (1, (0, 0)), (2, (0, x2)), (3, (0, x3)), (4, (4, 1))]) (stN := [(0, 0), (4, 1)]) (hsC := jpA_2219) (hsD := [jzA_2217, jgh, jgh, jgh, jgh, jgh, jgh, jgh, jgh, jgh, jzA_102, jzA_88, jzA_89, (117, [], [18, 19, 20, 21]), jgh, jgh, jgh, (4, [(4, 22), (1, 1)], []), (7, [(4, 23), (4, (-1)), (4, (-1))], []), jgh, jgh, jgh, (101, [], [0, 0, 0, 0, 0, 0]), (114, [], [17]), (101, [], [x2, 0, 0, 0, 0, 0]), (4, [(4, 24), (1, 1)], []), jgh, jzA_2216]) (v := (0, 0)) (st2 := [(0, 0), (0, 0), (4, 1)]) (hs2 := [jzA_2220, (101, [], [0]), jgh, jgh, jgh, jgh, jgh, jgh, jgh, jgh, jgh, jzA_76, jzA_77, jzA_109, (117, [], [19, 20, 21, 22]), jgh, jgh, jgh, (4, [(4, 23), (1, 1)], []), (7, [(4, 24), (4, (-1)), (4, (-1))], []), jgh, jgh, jgh, (101, [], [0, 0, 0, 0, 0, 0]), (114, [], [18]), (101, [], [x2, 0, 0, 0, 0, 0]), (4, [(4, 25), (1, 1)], []), jgh, jzA_2221]) (jA_132_573 (d := 0) (by omega) (by omega)) (by rfl) (by rfl) (by decide +kernel) (by rfl) (by rfl) (by omega) (by omega) (by omega) (by omega) rfl rfl ?_
  refine jT_xi2l (x := 0) (z := 0) (pcN := 11) jI_339_10 rfl (by decide +kernel) rfl ?_
  refine jT_adv 1 (pcN := 12) (LN := [(0, (4, 0)), (1, (0, 0)), (2, (0, x2)), (3, (0, x3)), (4, (4, 1))]) (stN := []) (hsN := [jzA_2220, (101, [], [0]), jgh, jgh, jgh, jgh, jgh, jgh, jgh, jgh, jgh, jzA_76, jzA_77, jzA_109, (117, [], [19, 20, 21, 22]), jgh, jgh, jgh, (4, [(4, 23), (1, 1)], []), (7, [(4, 24), (4, (-1)), (4, (-1))], []), jgh, jgh, jgh, (101, [], [0, 0, 0, 0, 0, 0]), (114, [], [18]), (101, [], [x2, 0, 0, 0, 0, 0]), (4, [(4, 25), (1, 1)], []), jgh, jzA_2221]) (c1 := 0) (s1 := 0) (c2 := 0) (s2 := 0) (by exact rfl) ?_ (by omega) (by omega)
  refine jT_xgoto (pcN := 27) jI_339_12 rfl ?_
  refine jT_xiconst (k := 0) (pcN := 28) jI_339_27 rfl ?_
  exact jT_ret rfl (by decide) (by show 25 ≤ 29; decide) (by omega) (by omega) ⟨rfl, rfl, rfl⟩
theorem jA_205_575 {xs : List Int} {d : Nat} {x2 : Int} (h_x2 : 1 ≤ x2 ∧ x2 ≤ 200) : jT xs (d + 1) 205 16 0 [(0, (4, 0))] [] [jzA_21, jgh, jgh, jgh, jgh, jgh, jgh, (101, [], [x2, 0, 0, 0, 0, 0]), jgh, jgh, jgh, jgh, jgh, jgh, jgh, jgh] 0 0 (fun k v hsN => k = 0 ∧ v = (0, 1) ∧ hsN = [jzA_21, jgh, jgh, jgh, jgh, jgh, jgh, (101, [], [x2, 0, 0, 0, 0, 0]), jgh, jgh, jgh, jgh, jgh, jgh, jgh, jgh] ++ []) := by
  refine jT_xaload_n (v := (4, 0)) (pcN := 1) jI_205_0 rfl rfl rfl ?_
  refine jT_xgetf (a := 0) (t := 1) (ci := 14) (fi := 10) (c := jzA_21) (v := (1, 1)) (pcN := 4) jI_205_1 rfl rfl rfl rfl rfl rfl rfl ?_
  refine jT_adv 1 (pcN := 7) (LN := [(0, (4, 0))]) (stN := [(1, 360), (1, 1)]) (hsN := [jzA_21, jgh, jgh, jgh, jgh, jgh, jgh, (101, [], [x2, 0, 0, 0, 0, 0]), jgh, jgh, jgh, jgh, jgh, jgh, jgh, jgh]) (c1 := 0) (s1 := 0) (c2 := 0) (s2 := 0) (by exact rfl) ?_ (by omega) (by omega)
  refine jT_lcmp (a := 1) (b := 360) (z := (-1)) (by rfl) (by rfl) (by decide +kernel) (by decide +kernel) (by decide) ?_
  refine jT_xifF (t := 15) (pcN := 11) jI_205_8 rfl (by decide +kernel) rfl rfl ?_
  refine jT_xiconst (k := 1) (pcN := 12) jI_205_11 rfl ?_
  refine jT_xgoto (pcN := 16) jI_205_12 rfl ?_
  refine jT_xistore_n (v := (0, 1)) (LN := [(1, (0, 1)), (0, (4, 0))]) (pcN := 17) jI_205_16 rfl rfl rfl rfl ?_
  refine jT_xiconst (k := 0) (pcN := 18) jI_205_17 rfl ?_
  refine jT_xistore_n (v := (0, 0)) (LN := [(2, (0, 0)), (1, (0, 1)), (0, (4, 0))]) (pcN := 19) jI_205_18 rfl rfl rfl rfl ?_
  refine jT_xiload_n (v := (0, 0)) (pcN := 20) jI_205_19 rfl rfl rfl ?_
  refine jT_xbipush (k := 6) (pcN := 22) jI_205_20 (by decide) rfl ?_
  refine jT_xicF (t := 59) (pcN := 25) jI_205_22 rfl (by decide +kernel) rfl rfl ?_
  refine jT_xiload_n (v := (0, 1)) (pcN := 26) jI_205_25 rfl rfl rfl ?_
  refine jT_xifF (t := 51) (pcN := 29) jI_205_26 rfl (by decide +kernel) rfl rfl ?_
  refine jT_xaload_n (v := (4, 0)) (pcN := 30) jI_205_29 rfl rfl rfl ?_
  refine jT_xgetf (a := 0) (t := 1) (ci := 14) (fi := 9) (c := jzA_21) (v := (4, 7)) (pcN := 33) jI_205_30 rfl rfl rfl rfl rfl rfl rfl ?_
  refine jT_xiload_n (v := (0, 0)) (pcN := 34) jI_205_33 rfl rfl rfl ?_
  refine jT_lald (x := x2) (a := 7) (j := 0) (fs := []) (X := [x2, 0, 0, 0, 0, 0]) jI_205_34 rfl rfl rfl rfl ?_
  refine jT_eq (LN := [(2, (0, 0)), (1, (0, 1)), (0, (4, 0))]) (stN := [(1, x2)]) (hsN := [jzA_21, jgh, jgh, jgh, jgh, jgh, jgh, (101, [], [x2, 0, 0, 0, 0, 0]), jgh, jgh, jgh, jgh, jgh, jgh, jgh, jgh]) rfl rfl rfl ?_
  refine jT_adv 2 (pcN := 41) (LN := [(2, (0, 0)), (1, (0, 1)), (0, (4, 0))]) (stN := [(1, 5000), (1, (-5000)), (1, x2)]) (hsN := [jzA_21, jgh, jgh, jgh, jgh, jgh, jgh, (101, [], [x2, 0, 0, 0, 0, 0]), jgh, jgh, jgh, jgh, jgh, jgh, jgh, jgh]) (c1 := 0) (s1 := 0) (c2 := 0) (s2 := 0) (by exact rfl) ?_ (by omega) (by omega)
  refine jT_callA [] (y := 189) (pcN := 44) (dC := 0) (bc1 := 0) (bc2 := 0) (c1 := 0) (c2 := 0) (as := [(1, x2), (1, (-5000)), (1, 5000)]) (asC := [(1, x2), (1, (-5000)), (1, 5000)]) (LN := [(2, (0, 0)), (1, (0, 1)), (0, (4, 0))]) (stN := []) (hsC := []) (ex := []) (v := (0, 1)) (st2 := [(0, 1)]) (hs2 := [jzA_21, jgh, jgh, jgh, jgh, jgh, jgh, (101, [], [x2, 0, 0, 0, 0, 0]), jgh, jgh, jgh, jgh, jgh, jgh, jgh, jgh]) (jT_in_ok (d := 0) (v := x2) (lo := (-5000)) (hi := 5000) (by omega) (by omega) (by omega) (by omega) (by omega)) (by rfl) (by rfl) (by rfl) (by rfl) trivial (by rfl) (by rfl) (by omega) (by show 16 ≤ 16; omega) (by omega) (by omega) rfl rfl ?_
  refine jT_xifF (t := 51) (pcN := 47) jI_205_44 rfl (by decide +kernel) rfl rfl ?_
  refine jT_xiconst (k := 1) (pcN := 48) jI_205_47 rfl ?_
  refine jT_xgoto (pcN := 52) jI_205_48 rfl ?_
  refine jT_xistore_n (v := (0, 1)) (LN := [(1, (0, 1)), (2, (0, 0)), (0, (4, 0))]) (pcN := 53) jI_205_52 rfl rfl rfl rfl ?_
  refine jT_xiinc (x := 0) (z := 1) (LN := [(2, (0, 1)), (1, (0, 1)), (0, (4, 0))]) (pcN := 56) jI_205_53 rfl rfl (by decide) rfl rfl ?_
  refine jT_xgoto (pcN := 19) jI_205_56 rfl ?_
  refine jT_xiload_n (v := (0, 1)) (pcN := 20) jI_205_19 rfl rfl rfl ?_
  refine jT_xbipush (k := 6) (pcN := 22) jI_205_20 (by decide) rfl ?_
  refine jT_xicF (t := 59) (pcN := 25) jI_205_22 rfl (by decide +kernel) rfl rfl ?_
  refine jT_xiload_n (v := (0, 1)) (pcN := 26) jI_205_25 rfl rfl rfl ?_
  refine jT_xifF (t := 51) (pcN := 29) jI_205_26 rfl (by decide +kernel) rfl rfl ?_
  refine jT_xaload_n (v := (4, 0)) (pcN := 30) jI_205_29 rfl rfl rfl ?_
  refine jT_xgetf (a := 0) (t := 1) (ci := 14) (fi := 9) (c := jzA_21) (v := (4, 7)) (pcN := 33) jI_205_30 rfl rfl rfl rfl rfl rfl rfl ?_
  refine jT_xiload_n (v := (0, 1)) (pcN := 34) jI_205_33 rfl rfl rfl ?_
  refine jT_lald (x := 0) (a := 7) (j := 1) (fs := []) (X := [x2, 0, 0, 0, 0, 0]) jI_205_34 rfl rfl rfl rfl ?_
  refine jT_eq (LN := [(2, (0, 1)), (1, (0, 1)), (0, (4, 0))]) (stN := [(1, 0)]) (hsN := [jzA_21, jgh, jgh, jgh, jgh, jgh, jgh, (101, [], [x2, 0, 0, 0, 0, 0]), jgh, jgh, jgh, jgh, jgh, jgh, jgh, jgh]) rfl rfl rfl ?_
  refine jT_adv 2 (pcN := 41) (LN := [(2, (0, 1)), (1, (0, 1)), (0, (4, 0))]) (stN := [(1, 5000), (1, (-5000)), (1, 0)]) (hsN := [jzA_21, jgh, jgh, jgh, jgh, jgh, jgh, (101, [], [x2, 0, 0, 0, 0, 0]), jgh, jgh, jgh, jgh, jgh, jgh, jgh, jgh]) (c1 := 0) (s1 := 0) (c2 := 0) (s2 := 0) (by exact rfl) ?_ (by omega) (by omega)
  refine jT_callA [] (y := 189) (pcN := 44) (dC := 0) (bc1 := 0) (bc2 := 0) (c1 := 0) (c2 := 0) (as := [(1, 0), (1, (-5000)), (1, 5000)]) (asC := [(1, 0), (1, (-5000)), (1, 5000)]) (LN := [(2, (0, 1)), (1, (0, 1)), (0, (4, 0))]) (stN := []) (hsC := []) (ex := []) (v := (0, 1)) (st2 := [(0, 1)]) (hs2 := [jzA_21, jgh, jgh, jgh, jgh, jgh, jgh, (101, [], [x2, 0, 0, 0, 0, 0]), jgh, jgh, jgh, jgh, jgh, jgh, jgh, jgh]) (jA_189_47 (d := 0)) (by rfl) (by rfl) (by rfl) (by rfl) trivial (by rfl) (by rfl) (by omega) (by show 16 ≤ 16; omega) (by omega) (by omega) rfl rfl ?_
  refine jT_xifF (t := 51) (pcN := 47) jI_205_44 rfl (by decide +kernel) rfl rfl ?_
  refine jT_xiconst (k := 1) (pcN := 48) jI_205_47 rfl ?_
  refine jT_xgoto (pcN := 52) jI_205_48 rfl ?_
  refine jT_xistore_n (v := (0, 1)) (LN := [(1, (0, 1)), (2, (0, 1)), (0, (4, 0))]) (pcN := 53) jI_205_52 rfl rfl rfl rfl ?_
  refine jT_xiinc (x := 1) (z := 2) (LN := [(2, (0, 2)), (1, (0, 1)), (0, (4, 0))]) (pcN := 56) jI_205_53 rfl rfl (by decide) rfl rfl ?_
  refine jT_xgoto (pcN := 19) jI_205_56 rfl ?_
  refine jT_xiload_n (v := (0, 2)) (pcN := 20) jI_205_19 rfl rfl rfl ?_
  refine jT_xbipush (k := 6) (pcN := 22) jI_205_20 (by decide) rfl ?_
  refine jT_xicF (t := 59) (pcN := 25) jI_205_22 rfl (by decide +kernel) rfl rfl ?_
  refine jT_xiload_n (v := (0, 1)) (pcN := 26) jI_205_25 rfl rfl rfl ?_
  refine jT_xifF (t := 51) (pcN := 29) jI_205_26 rfl (by decide +kernel) rfl rfl ?_
  refine jT_xaload_n (v := (4, 0)) (pcN := 30) jI_205_29 rfl rfl rfl ?_
  refine jT_xgetf (a := 0) (t := 1) (ci := 14) (fi := 9) (c := jzA_21) (v := (4, 7)) (pcN := 33) jI_205_30 rfl rfl rfl rfl rfl rfl rfl ?_
  refine jT_xiload_n (v := (0, 2)) (pcN := 34) jI_205_33 rfl rfl rfl ?_
  refine jT_lald (x := 0) (a := 7) (j := 2) (fs := []) (X := [x2, 0, 0, 0, 0, 0]) jI_205_34 rfl rfl rfl rfl ?_
  refine jT_eq (LN := [(2, (0, 2)), (1, (0, 1)), (0, (4, 0))]) (stN := [(1, 0)]) (hsN := [jzA_21, jgh, jgh, jgh, jgh, jgh, jgh, (101, [], [x2, 0, 0, 0, 0, 0]), jgh, jgh, jgh, jgh, jgh, jgh, jgh, jgh]) rfl rfl rfl ?_
  refine jT_adv 2 (pcN := 41) (LN := [(2, (0, 2)), (1, (0, 1)), (0, (4, 0))]) (stN := [(1, 5000), (1, (-5000)), (1, 0)]) (hsN := [jzA_21, jgh, jgh, jgh, jgh, jgh, jgh, (101, [], [x2, 0, 0, 0, 0, 0]), jgh, jgh, jgh, jgh, jgh, jgh, jgh, jgh]) (c1 := 0) (s1 := 0) (c2 := 0) (s2 := 0) (by exact rfl) ?_ (by omega) (by omega)
  refine jT_callA [] (y := 189) (pcN := 44) (dC := 0) (bc1 := 0) (bc2 := 0) (c1 := 0) (c2 := 0) (as := [(1, 0), (1, (-5000)), (1, 5000)]) (asC := [(1, 0), (1, (-5000)), (1, 5000)]) (LN := [(2, (0, 2)), (1, (0, 1)), (0, (4, 0))]) (stN := []) (hsC := []) (ex := []) (v := (0, 1)) (st2 := [(0, 1)]) (hs2 := [jzA_21, jgh, jgh, jgh, jgh, jgh, jgh, (101, [], [x2, 0, 0, 0, 0, 0]), jgh, jgh, jgh, jgh, jgh, jgh, jgh, jgh]) (jA_189_47 (d := 0)) (by rfl) (by rfl) (by rfl) (by rfl) trivial (by rfl) (by rfl) (by omega) (by show 16 ≤ 16; omega) (by omega) (by omega) rfl rfl ?_
  refine jT_xifF (t := 51) (pcN := 47) jI_205_44 rfl (by decide +kernel) rfl rfl ?_
  refine jT_xiconst (k := 1) (pcN := 48) jI_205_47 rfl ?_
  refine jT_xgoto (pcN := 52) jI_205_48 rfl ?_
  refine jT_xistore_n (v := (0, 1)) (LN := [(1, (0, 1)), (2, (0, 2)), (0, (4, 0))]) (pcN := 53) jI_205_52 rfl rfl rfl rfl ?_
  refine jT_xiinc (x := 2) (z := 3) (LN := [(2, (0, 3)), (1, (0, 1)), (0, (4, 0))]) (pcN := 56) jI_205_53 rfl rfl (by decide) rfl rfl ?_
  refine jT_xgoto (pcN := 19) jI_205_56 rfl ?_
  refine jT_xiload_n (v := (0, 3)) (pcN := 20) jI_205_19 rfl rfl rfl ?_
  refine jT_xbipush (k := 6) (pcN := 22) jI_205_20 (by decide) rfl ?_
  refine jT_xicF (t := 59) (pcN := 25) jI_205_22 rfl (by decide +kernel) rfl rfl ?_
  refine jT_xiload_n (v := (0, 1)) (pcN := 26) jI_205_25 rfl rfl rfl ?_
  refine jT_xifF (t := 51) (pcN := 29) jI_205_26 rfl (by decide +kernel) rfl rfl ?_
  refine jT_xaload_n (v := (4, 0)) (pcN := 30) jI_205_29 rfl rfl rfl ?_
  refine jT_xgetf (a := 0) (t := 1) (ci := 14) (fi := 9) (c := jzA_21) (v := (4, 7)) (pcN := 33) jI_205_30 rfl rfl rfl rfl rfl rfl rfl ?_
  refine jT_xiload_n (v := (0, 3)) (pcN := 34) jI_205_33 rfl rfl rfl ?_
  refine jT_lald (x := 0) (a := 7) (j := 3) (fs := []) (X := [x2, 0, 0, 0, 0, 0]) jI_205_34 rfl rfl rfl rfl ?_
  refine jT_eq (LN := [(2, (0, 3)), (1, (0, 1)), (0, (4, 0))]) (stN := [(1, 0)]) (hsN := [jzA_21, jgh, jgh, jgh, jgh, jgh, jgh, (101, [], [x2, 0, 0, 0, 0, 0]), jgh, jgh, jgh, jgh, jgh, jgh, jgh, jgh]) rfl rfl rfl ?_
  refine jT_adv 2 (pcN := 41) (LN := [(2, (0, 3)), (1, (0, 1)), (0, (4, 0))]) (stN := [(1, 5000), (1, (-5000)), (1, 0)]) (hsN := [jzA_21, jgh, jgh, jgh, jgh, jgh, jgh, (101, [], [x2, 0, 0, 0, 0, 0]), jgh, jgh, jgh, jgh, jgh, jgh, jgh, jgh]) (c1 := 0) (s1 := 0) (c2 := 0) (s2 := 0) (by exact rfl) ?_ (by omega) (by omega)
  refine jT_callA [] (y := 189) (pcN := 44) (dC := 0) (bc1 := 0) (bc2 := 0) (c1 := 0) (c2 := 0) (as := [(1, 0), (1, (-5000)), (1, 5000)]) (asC := [(1, 0), (1, (-5000)), (1, 5000)]) (LN := [(2, (0, 3)), (1, (0, 1)), (0, (4, 0))]) (stN := []) (hsC := []) (ex := []) (v := (0, 1)) (st2 := [(0, 1)]) (hs2 := [jzA_21, jgh, jgh, jgh, jgh, jgh, jgh, (101, [], [x2, 0, 0, 0, 0, 0]), jgh, jgh, jgh, jgh, jgh, jgh, jgh, jgh]) (jA_189_47 (d := 0)) (by rfl) (by rfl) (by rfl) (by rfl) trivial (by rfl) (by rfl) (by omega) (by show 16 ≤ 16; omega) (by omega) (by omega) rfl rfl ?_
  refine jT_xifF (t := 51) (pcN := 47) jI_205_44 rfl (by decide +kernel) rfl rfl ?_
  refine jT_xiconst (k := 1) (pcN := 48) jI_205_47 rfl ?_
  refine jT_xgoto (pcN := 52) jI_205_48 rfl ?_
  refine jT_xistore_n (v := (0, 1)) (LN := [(1, (0, 1)), (2, (0, 3)), (0, (4, 0))]) (pcN := 53) jI_205_52 rfl rfl rfl rfl ?_
  refine jT_xiinc (x := 3) (z := 4) (LN := [(2, (0, 4)), (1, (0, 1)), (0, (4, 0))]) (pcN := 56) jI_205_53 rfl rfl (by decide) rfl rfl ?_
  refine jT_xgoto (pcN := 19) jI_205_56 rfl ?_
  refine jT_xiload_n (v := (0, 4)) (pcN := 20) jI_205_19 rfl rfl rfl ?_
  refine jT_xbipush (k := 6) (pcN := 22) jI_205_20 (by decide) rfl ?_
  refine jT_xicF (t := 59) (pcN := 25) jI_205_22 rfl (by decide +kernel) rfl rfl ?_
  refine jT_xiload_n (v := (0, 1)) (pcN := 26) jI_205_25 rfl rfl rfl ?_
  refine jT_xifF (t := 51) (pcN := 29) jI_205_26 rfl (by decide +kernel) rfl rfl ?_
  refine jT_xaload_n (v := (4, 0)) (pcN := 30) jI_205_29 rfl rfl rfl ?_
  refine jT_xgetf (a := 0) (t := 1) (ci := 14) (fi := 9) (c := jzA_21) (v := (4, 7)) (pcN := 33) jI_205_30 rfl rfl rfl rfl rfl rfl rfl ?_
  refine jT_xiload_n (v := (0, 4)) (pcN := 34) jI_205_33 rfl rfl rfl ?_
  refine jT_lald (x := 0) (a := 7) (j := 4) (fs := []) (X := [x2, 0, 0, 0, 0, 0]) jI_205_34 rfl rfl rfl rfl ?_
  refine jT_eq (LN := [(2, (0, 4)), (1, (0, 1)), (0, (4, 0))]) (stN := [(1, 0)]) (hsN := [jzA_21, jgh, jgh, jgh, jgh, jgh, jgh, (101, [], [x2, 0, 0, 0, 0, 0]), jgh, jgh, jgh, jgh, jgh, jgh, jgh, jgh]) rfl rfl rfl ?_
  refine jT_adv 2 (pcN := 41) (LN := [(2, (0, 4)), (1, (0, 1)), (0, (4, 0))]) (stN := [(1, 5000), (1, (-5000)), (1, 0)]) (hsN := [jzA_21, jgh, jgh, jgh, jgh, jgh, jgh, (101, [], [x2, 0, 0, 0, 0, 0]), jgh, jgh, jgh, jgh, jgh, jgh, jgh, jgh]) (c1 := 0) (s1 := 0) (c2 := 0) (s2 := 0) (by exact rfl) ?_ (by omega) (by omega)
  refine jT_callA [] (y := 189) (pcN := 44) (dC := 0) (bc1 := 0) (bc2 := 0) (c1 := 0) (c2 := 0) (as := [(1, 0), (1, (-5000)), (1, 5000)]) (asC := [(1, 0), (1, (-5000)), (1, 5000)]) (LN := [(2, (0, 4)), (1, (0, 1)), (0, (4, 0))]) (stN := []) (hsC := []) (ex := []) (v := (0, 1)) (st2 := [(0, 1)]) (hs2 := [jzA_21, jgh, jgh, jgh, jgh, jgh, jgh, (101, [], [x2, 0, 0, 0, 0, 0]), jgh, jgh, jgh, jgh, jgh, jgh, jgh, jgh]) (jA_189_47 (d := 0)) (by rfl) (by rfl) (by rfl) (by rfl) trivial (by rfl) (by rfl) (by omega) (by show 16 ≤ 16; omega) (by omega) (by omega) rfl rfl ?_
  refine jT_xifF (t := 51) (pcN := 47) jI_205_44 rfl (by decide +kernel) rfl rfl ?_
  refine jT_xiconst (k := 1) (pcN := 48) jI_205_47 rfl ?_
  refine jT_xgoto (pcN := 52) jI_205_48 rfl ?_
  refine jT_xistore_n (v := (0, 1)) (LN := [(1, (0, 1)), (2, (0, 4)), (0, (4, 0))]) (pcN := 53) jI_205_52 rfl rfl rfl rfl ?_
  refine jT_xiinc (x := 4) (z := 5) (LN := [(2, (0, 5)), (1, (0, 1)), (0, (4, 0))]) (pcN := 56) jI_205_53 rfl rfl (by decide) rfl rfl ?_
  refine jT_xgoto (pcN := 19) jI_205_56 rfl ?_
  refine jT_xiload_n (v := (0, 5)) (pcN := 20) jI_205_19 rfl rfl rfl ?_
  refine jT_xbipush (k := 6) (pcN := 22) jI_205_20 (by decide) rfl ?_
  refine jT_xicF (t := 59) (pcN := 25) jI_205_22 rfl (by decide +kernel) rfl rfl ?_
  refine jT_xiload_n (v := (0, 1)) (pcN := 26) jI_205_25 rfl rfl rfl ?_
  refine jT_xifF (t := 51) (pcN := 29) jI_205_26 rfl (by decide +kernel) rfl rfl ?_
  refine jT_xaload_n (v := (4, 0)) (pcN := 30) jI_205_29 rfl rfl rfl ?_
  refine jT_xgetf (a := 0) (t := 1) (ci := 14) (fi := 9) (c := jzA_21) (v := (4, 7)) (pcN := 33) jI_205_30 rfl rfl rfl rfl rfl rfl rfl ?_
  refine jT_xiload_n (v := (0, 5)) (pcN := 34) jI_205_33 rfl rfl rfl ?_
  refine jT_lald (x := 0) (a := 7) (j := 5) (fs := []) (X := [x2, 0, 0, 0, 0, 0]) jI_205_34 rfl rfl rfl rfl ?_
  refine jT_eq (LN := [(2, (0, 5)), (1, (0, 1)), (0, (4, 0))]) (stN := [(1, 0)]) (hsN := [jzA_21, jgh, jgh, jgh, jgh, jgh, jgh, (101, [], [x2, 0, 0, 0, 0, 0]), jgh, jgh, jgh, jgh, jgh, jgh, jgh, jgh]) rfl rfl rfl ?_
  refine jT_adv 2 (pcN := 41) (LN := [(2, (0, 5)), (1, (0, 1)), (0, (4, 0))]) (stN := [(1, 5000), (1, (-5000)), (1, 0)]) (hsN := [jzA_21, jgh, jgh, jgh, jgh, jgh, jgh, (101, [], [x2, 0, 0, 0, 0, 0]), jgh, jgh, jgh, jgh, jgh, jgh, jgh, jgh]) (c1 := 0) (s1 := 0) (c2 := 0) (s2 := 0) (by exact rfl) ?_ (by omega) (by omega)
  refine jT_callA [] (y := 189) (pcN := 44) (dC := 0) (bc1 := 0) (bc2 := 0) (c1 := 0) (c2 := 0) (as := [(1, 0), (1, (-5000)), (1, 5000)]) (asC := [(1, 0), (1, (-5000)), (1, 5000)]) (LN := [(2, (0, 5)), (1, (0, 1)), (0, (4, 0))]) (stN := []) (hsC := []) (ex := []) (v := (0, 1)) (st2 := [(0, 1)]) (hs2 := [jzA_21, jgh, jgh, jgh, jgh, jgh, jgh, (101, [], [x2, 0, 0, 0, 0, 0]), jgh, jgh, jgh, jgh, jgh, jgh, jgh, jgh]) (jA_189_47 (d := 0)) (by rfl) (by rfl) (by rfl) (by rfl) trivial (by rfl) (by rfl) (by omega) (by show 16 ≤ 16; omega) (by omega) (by omega) rfl rfl ?_
  refine jT_xifF (t := 51) (pcN := 47) jI_205_44 rfl (by decide +kernel) rfl rfl ?_
  refine jT_xiconst (k := 1) (pcN := 48) jI_205_47 rfl ?_
  refine jT_xgoto (pcN := 52) jI_205_48 rfl ?_
  refine jT_xistore_n (v := (0, 1)) (LN := [(1, (0, 1)), (2, (0, 5)), (0, (4, 0))]) (pcN := 53) jI_205_52 rfl rfl rfl rfl ?_
  refine jT_xiinc (x := 5) (z := 6) (LN := [(2, (0, 6)), (1, (0, 1)), (0, (4, 0))]) (pcN := 56) jI_205_53 rfl rfl (by decide) rfl rfl ?_
  refine jT_xgoto (pcN := 19) jI_205_56 rfl ?_
  refine jT_xiload_n (v := (0, 6)) (pcN := 20) jI_205_19 rfl rfl rfl ?_
  refine jT_xbipush (k := 6) (pcN := 22) jI_205_20 (by decide) rfl ?_
  refine jT_xicT (pcN := 59) jI_205_22 rfl (by decide +kernel) rfl ?_
  refine jT_xiload_n (v := (0, 1)) (pcN := 60) jI_205_59 rfl rfl rfl ?_
  exact jT_ret rfl (by decide) (by show 16 ≤ 16; decide) (by omega) (by omega) ⟨rfl, rfl, rfl⟩
theorem jA_197_576 {xs : List Int} {d : Nat} {x2 x3 : Int} (h_x2 : 1 ≤ x2 ∧ x2 ≤ 200) (h_x3 : 0 ≤ x3 ∧ x3 ≤ 7) : jT xs d 197 16 0 [(0, (4, 0)), (1, (4, 1)), (2, (0, 7 * x3))] [] [jzA_200, (100, [], jS0), jgh, jgh, jgh, jgh, jgh, (101, [], [x2, 0, 0, 0, 0, 0]), jgh, jgh, jgh, jgh, jgh, jgh, jgh, jgh] 0 0 (fun k v hsN => k = 0 ∧ v = (9, 0) ∧ hsN = [jzA_200, (100, [], ((((((((((((((jS0).set ((7 * x3).toNat) x2)).set ((7 * x3 + 1).toNat) 0)).set ((7 * x3 + 2).toNat) 0)).set ((7 * x3 + 3).toNat) 0)).set ((7 * x3 + 4).toNat) 0)).set ((7 * x3 + 5).toNat) 0)).set ((7 * x3 + 6).toNat) 1)), jgh, jgh, jgh, jgh, jgh, (101, [], [x2, 0, 0, 0, 0, 0]), jgh, jgh, jgh, jgh, jgh, jgh, jgh, jgh]) := by
  refine jT_xiconst (k := 0) (pcN := 1) jI_197_0 rfl ?_
  refine jT_xistore_n (v := (0, 0)) (LN := [(3, (0, 0)), (0, (4, 0)), (1, (4, 1)), (2, (0, 7 * x3))]) (pcN := 2) jI_197_1 rfl rfl rfl rfl ?_
  refine jT_xiload_n (v := (0, 0)) (pcN := 3) jI_197_2 rfl rfl rfl ?_
  refine jT_xbipush (k := 6) (pcN := 5) jI_197_3 (by decide) rfl ?_
  refine jT_xicF (t := 26) (pcN := 8) jI_197_5 rfl (by decide +kernel) rfl rfl ?_
  refine jT_xaload_n (v := (4, 1)) (pcN := 9) jI_197_8 rfl rfl rfl ?_
  refine jT_xiload_n (v := (0, 7 * x3)) (pcN := 10) jI_197_9 rfl rfl rfl ?_
  refine jT_xiload_n (v := (0, 0)) (pcN := 11) jI_197_10 rfl rfl rfl ?_
  refine jT_xiadd (x := 7 * x3) (y := 0) (z := 7 * x3) (pcN := 12) jI_197_11 rfl (by omega) rfl ?_
  refine jT_xaload_n (v := (4, 0)) (pcN := 13) jI_197_12 rfl rfl rfl ?_
  refine jT_xgetf (a := 0) (t := 1) (ci := 14) (fi := 9) (c := jzA_200) (v := (4, 7)) (pcN := 16) jI_197_13 rfl rfl rfl rfl rfl rfl rfl ?_
  refine jT_xiload_n (v := (0, 0)) (pcN := 17) jI_197_16 rfl rfl rfl ?_
  refine jT_lald (x := x2) (a := 7) (j := 0) (fs := []) (X := [x2, 0, 0, 0, 0, 0]) jI_197_17 rfl rfl rfl rfl ?_
  refine jT_eq (LN := [(3, (0, 0)), (0, (4, 0)), (1, (4, 1)), (2, (0, 7 * x3))]) (stN := [(1, x2), (0, 7 * x3), (4, 1)]) (hsN := [jzA_200, (100, [], jS0), jgh, jgh, jgh, jgh, jgh, (101, [], [x2, 0, 0, 0, 0, 0]), jgh, jgh, jgh, jgh, jgh, jgh, jgh, jgh]) rfl rfl rfl ?_
  refine jT_xl2i (pcN := 19) jI_197_18 rfl rfl ?_
  refine jT_iast (x := x2) (a := 1) (j := (7 * x3).toNat) (fs := []) (X := jS0) (by rfl) (by rfl) (by rfl) (jw_nn (by omega) (by omega)) (by rw [show List.length (jS0 : List Int) = 1613 from jS0_len]; omega) ?_
  refine jT_eq (LN := [(3, (0, 0)), (0, (4, 0)), (1, (4, 1)), (2, (0, 7 * x3))]) (stN := []) (hsN := [jzA_200, (100, [], ((jS0).set ((7 * x3).toNat) x2)), jgh, jgh, jgh, jgh, jgh, (101, [], [x2, 0, 0, 0, 0, 0]), jgh, jgh, jgh, jgh, jgh, jgh, jgh, jgh]) rfl rfl rfl ?_
  refine jT_xiinc (x := 0) (z := 1) (LN := [(3, (0, 1)), (0, (4, 0)), (1, (4, 1)), (2, (0, 7 * x3))]) (pcN := 23) jI_197_20 rfl rfl (by decide) rfl rfl ?_
  refine jT_xgoto (pcN := 2) jI_197_23 rfl ?_
  refine jT_xiload_n (v := (0, 1)) (pcN := 3) jI_197_2 rfl rfl rfl ?_
  refine jT_xbipush (k := 6) (pcN := 5) jI_197_3 (by decide) rfl ?_
  refine jT_xicF (t := 26) (pcN := 8) jI_197_5 rfl (by decide +kernel) rfl rfl ?_
  refine jT_xaload_n (v := (4, 1)) (pcN := 9) jI_197_8 rfl rfl rfl ?_
  refine jT_xiload_n (v := (0, 7 * x3)) (pcN := 10) jI_197_9 rfl rfl rfl ?_
  refine jT_xiload_n (v := (0, 1)) (pcN := 11) jI_197_10 rfl rfl rfl ?_
  refine jT_xiadd (x := 7 * x3) (y := 1) (z := 7 * x3 + 1) (pcN := 12) jI_197_11 rfl (by omega) rfl ?_
  refine jT_xaload_n (v := (4, 0)) (pcN := 13) jI_197_12 rfl rfl rfl ?_
  refine jT_xgetf (a := 0) (t := 1) (ci := 14) (fi := 9) (c := jzA_200) (v := (4, 7)) (pcN := 16) jI_197_13 rfl rfl rfl rfl rfl rfl rfl ?_
  refine jT_xiload_n (v := (0, 1)) (pcN := 17) jI_197_16 rfl rfl rfl ?_
  refine jT_lald (x := 0) (a := 7) (j := 1) (fs := []) (X := [x2, 0, 0, 0, 0, 0]) jI_197_17 rfl rfl rfl rfl ?_
  refine jT_eq (LN := [(3, (0, 1)), (0, (4, 0)), (1, (4, 1)), (2, (0, 7 * x3))]) (stN := [(1, 0), (0, 7 * x3 + 1), (4, 1)]) (hsN := [jzA_200, (100, [], ((jS0).set ((7 * x3).toNat) x2)), jgh, jgh, jgh, jgh, jgh, (101, [], [x2, 0, 0, 0, 0, 0]), jgh, jgh, jgh, jgh, jgh, jgh, jgh, jgh]) rfl rfl rfl ?_
  refine jT_xl2i (pcN := 19) jI_197_18 rfl rfl ?_
  refine jT_iast (x := 0) (a := 1) (j := (7 * x3 + 1).toNat) (fs := []) (X := ((jS0).set ((7 * x3).toNat) x2)) (by rfl) (by rfl) (by rfl) (jw_nn (by omega) (by omega)) (by rw [show List.length (((jS0).set ((7 * x3).toNat) x2) : List Int) = 1613 from by rw [List.length_set]; exact (jS0_len)]; omega) ?_
  refine jT_eq (LN := [(3, (0, 1)), (0, (4, 0)), (1, (4, 1)), (2, (0, 7 * x3))]) (stN := []) (hsN := [jzA_200, (100, [], ((((jS0).set ((7 * x3).toNat) x2)).set ((7 * x3 + 1).toNat) 0)), jgh, jgh, jgh, jgh, jgh, (101, [], [x2, 0, 0, 0, 0, 0]), jgh, jgh, jgh, jgh, jgh, jgh, jgh, jgh]) rfl rfl rfl ?_
  refine jT_xiinc (x := 1) (z := 2) (LN := [(3, (0, 2)), (0, (4, 0)), (1, (4, 1)), (2, (0, 7 * x3))]) (pcN := 23) jI_197_20 rfl rfl (by decide) rfl rfl ?_
  refine jT_xgoto (pcN := 2) jI_197_23 rfl ?_
  refine jT_xiload_n (v := (0, 2)) (pcN := 3) jI_197_2 rfl rfl rfl ?_
  refine jT_xbipush (k := 6) (pcN := 5) jI_197_3 (by decide) rfl ?_
  refine jT_xicF (t := 26) (pcN := 8) jI_197_5 rfl (by decide +kernel) rfl rfl ?_
  refine jT_xaload_n (v := (4, 1)) (pcN := 9) jI_197_8 rfl rfl rfl ?_
  refine jT_xiload_n (v := (0, 7 * x3)) (pcN := 10) jI_197_9 rfl rfl rfl ?_
  refine jT_xiload_n (v := (0, 2)) (pcN := 11) jI_197_10 rfl rfl rfl ?_
  refine jT_xiadd (x := 7 * x3) (y := 2) (z := 7 * x3 + 2) (pcN := 12) jI_197_11 rfl (by omega) rfl ?_
  refine jT_xaload_n (v := (4, 0)) (pcN := 13) jI_197_12 rfl rfl rfl ?_
  refine jT_xgetf (a := 0) (t := 1) (ci := 14) (fi := 9) (c := jzA_200) (v := (4, 7)) (pcN := 16) jI_197_13 rfl rfl rfl rfl rfl rfl rfl ?_
  refine jT_xiload_n (v := (0, 2)) (pcN := 17) jI_197_16 rfl rfl rfl ?_
  refine jT_lald (x := 0) (a := 7) (j := 2) (fs := []) (X := [x2, 0, 0, 0, 0, 0]) jI_197_17 rfl rfl rfl rfl ?_
  refine jT_eq (LN := [(3, (0, 2)), (0, (4, 0)), (1, (4, 1)), (2, (0, 7 * x3))]) (stN := [(1, 0), (0, 7 * x3 + 2), (4, 1)]) (hsN := [jzA_200, (100, [], ((((jS0).set ((7 * x3).toNat) x2)).set ((7 * x3 + 1).toNat) 0)), jgh, jgh, jgh, jgh, jgh, (101, [], [x2, 0, 0, 0, 0, 0]), jgh, jgh, jgh, jgh, jgh, jgh, jgh, jgh]) rfl rfl rfl ?_
  refine jT_xl2i (pcN := 19) jI_197_18 rfl rfl ?_
  refine jT_iast (x := 0) (a := 1) (j := (7 * x3 + 2).toNat) (fs := []) (X := ((((jS0).set ((7 * x3).toNat) x2)).set ((7 * x3 + 1).toNat) 0)) (by rfl) (by rfl) (by rfl) (jw_nn (by omega) (by omega)) (by rw [show List.length (((((jS0).set ((7 * x3).toNat) x2)).set ((7 * x3 + 1).toNat) 0) : List Int) = 1613 from by rw [List.length_set, List.length_set]; exact (jS0_len)]; omega) ?_
  refine jT_eq (LN := [(3, (0, 2)), (0, (4, 0)), (1, (4, 1)), (2, (0, 7 * x3))]) (stN := []) (hsN := [jzA_200, (100, [], ((((((jS0).set ((7 * x3).toNat) x2)).set ((7 * x3 + 1).toNat) 0)).set ((7 * x3 + 2).toNat) 0)), jgh, jgh, jgh, jgh, jgh, (101, [], [x2, 0, 0, 0, 0, 0]), jgh, jgh, jgh, jgh, jgh, jgh, jgh, jgh]) rfl rfl rfl ?_
  refine jT_xiinc (x := 2) (z := 3) (LN := [(3, (0, 3)), (0, (4, 0)), (1, (4, 1)), (2, (0, 7 * x3))]) (pcN := 23) jI_197_20 rfl rfl (by decide) rfl rfl ?_
  refine jT_xgoto (pcN := 2) jI_197_23 rfl ?_
  refine jT_xiload_n (v := (0, 3)) (pcN := 3) jI_197_2 rfl rfl rfl ?_
  refine jT_xbipush (k := 6) (pcN := 5) jI_197_3 (by decide) rfl ?_
  refine jT_xicF (t := 26) (pcN := 8) jI_197_5 rfl (by decide +kernel) rfl rfl ?_
  refine jT_xaload_n (v := (4, 1)) (pcN := 9) jI_197_8 rfl rfl rfl ?_
  refine jT_xiload_n (v := (0, 7 * x3)) (pcN := 10) jI_197_9 rfl rfl rfl ?_
  refine jT_xiload_n (v := (0, 3)) (pcN := 11) jI_197_10 rfl rfl rfl ?_
  refine jT_xiadd (x := 7 * x3) (y := 3) (z := 7 * x3 + 3) (pcN := 12) jI_197_11 rfl (by omega) rfl ?_
  refine jT_xaload_n (v := (4, 0)) (pcN := 13) jI_197_12 rfl rfl rfl ?_
  refine jT_xgetf (a := 0) (t := 1) (ci := 14) (fi := 9) (c := jzA_200) (v := (4, 7)) (pcN := 16) jI_197_13 rfl rfl rfl rfl rfl rfl rfl ?_
  refine jT_xiload_n (v := (0, 3)) (pcN := 17) jI_197_16 rfl rfl rfl ?_
  refine jT_lald (x := 0) (a := 7) (j := 3) (fs := []) (X := [x2, 0, 0, 0, 0, 0]) jI_197_17 rfl rfl rfl rfl ?_
  refine jT_eq (LN := [(3, (0, 3)), (0, (4, 0)), (1, (4, 1)), (2, (0, 7 * x3))]) (stN := [(1, 0), (0, 7 * x3 + 3), (4, 1)]) (hsN := [jzA_200, (100, [], ((((((jS0).set ((7 * x3).toNat) x2)).set ((7 * x3 + 1).toNat) 0)).set ((7 * x3 + 2).toNat) 0)), jgh, jgh, jgh, jgh, jgh, (101, [], [x2, 0, 0, 0, 0, 0]), jgh, jgh, jgh, jgh, jgh, jgh, jgh, jgh]) rfl rfl rfl ?_
  refine jT_xl2i (pcN := 19) jI_197_18 rfl rfl ?_
  refine jT_iast (x := 0) (a := 1) (j := (7 * x3 + 3).toNat) (fs := []) (X := ((((((jS0).set ((7 * x3).toNat) x2)).set ((7 * x3 + 1).toNat) 0)).set ((7 * x3 + 2).toNat) 0)) (by rfl) (by rfl) (by rfl) (jw_nn (by omega) (by omega)) (by rw [show List.length (((((((jS0).set ((7 * x3).toNat) x2)).set ((7 * x3 + 1).toNat) 0)).set ((7 * x3 + 2).toNat) 0) : List Int) = 1613 from by rw [List.length_set, List.length_set, List.length_set]; exact (jS0_len)]; omega) ?_
  refine jT_eq (LN := [(3, (0, 3)), (0, (4, 0)), (1, (4, 1)), (2, (0, 7 * x3))]) (stN := []) (hsN := [jzA_200, (100, [], ((((((((jS0).set ((7 * x3).toNat) x2)).set ((7 * x3 + 1).toNat) 0)).set ((7 * x3 + 2).toNat) 0)).set ((7 * x3 + 3).toNat) 0)), jgh, jgh, jgh, jgh, jgh, (101, [], [x2, 0, 0, 0, 0, 0]), jgh, jgh, jgh, jgh, jgh, jgh, jgh, jgh]) rfl rfl rfl ?_
  refine jT_xiinc (x := 3) (z := 4) (LN := [(3, (0, 4)), (0, (4, 0)), (1, (4, 1)), (2, (0, 7 * x3))]) (pcN := 23) jI_197_20 rfl rfl (by decide) rfl rfl ?_
  refine jT_xgoto (pcN := 2) jI_197_23 rfl ?_
  refine jT_xiload_n (v := (0, 4)) (pcN := 3) jI_197_2 rfl rfl rfl ?_
  refine jT_xbipush (k := 6) (pcN := 5) jI_197_3 (by decide) rfl ?_
  refine jT_xicF (t := 26) (pcN := 8) jI_197_5 rfl (by decide +kernel) rfl rfl ?_
  refine jT_xaload_n (v := (4, 1)) (pcN := 9) jI_197_8 rfl rfl rfl ?_
  refine jT_xiload_n (v := (0, 7 * x3)) (pcN := 10) jI_197_9 rfl rfl rfl ?_
  refine jT_xiload_n (v := (0, 4)) (pcN := 11) jI_197_10 rfl rfl rfl ?_
  refine jT_xiadd (x := 7 * x3) (y := 4) (z := 7 * x3 + 4) (pcN := 12) jI_197_11 rfl (by omega) rfl ?_
  refine jT_xaload_n (v := (4, 0)) (pcN := 13) jI_197_12 rfl rfl rfl ?_
  refine jT_xgetf (a := 0) (t := 1) (ci := 14) (fi := 9) (c := jzA_200) (v := (4, 7)) (pcN := 16) jI_197_13 rfl rfl rfl rfl rfl rfl rfl ?_
  refine jT_xiload_n (v := (0, 4)) (pcN := 17) jI_197_16 rfl rfl rfl ?_
  refine jT_lald (x := 0) (a := 7) (j := 4) (fs := []) (X := [x2, 0, 0, 0, 0, 0]) jI_197_17 rfl rfl rfl rfl ?_
  refine jT_eq (LN := [(3, (0, 4)), (0, (4, 0)), (1, (4, 1)), (2, (0, 7 * x3))]) (stN := [(1, 0), (0, 7 * x3 + 4), (4, 1)]) (hsN := [jzA_200, (100, [], ((((((((jS0).set ((7 * x3).toNat) x2)).set ((7 * x3 + 1).toNat) 0)).set ((7 * x3 + 2).toNat) 0)).set ((7 * x3 + 3).toNat) 0)), jgh, jgh, jgh, jgh, jgh, (101, [], [x2, 0, 0, 0, 0, 0]), jgh, jgh, jgh, jgh, jgh, jgh, jgh, jgh]) rfl rfl rfl ?_
  refine jT_xl2i (pcN := 19) jI_197_18 rfl rfl ?_
  refine jT_iast (x := 0) (a := 1) (j := (7 * x3 + 4).toNat) (fs := []) (X := ((((((((jS0).set ((7 * x3).toNat) x2)).set ((7 * x3 + 1).toNat) 0)).set ((7 * x3 + 2).toNat) 0)).set ((7 * x3 + 3).toNat) 0)) (by rfl) (by rfl) (by rfl) (jw_nn (by omega) (by omega)) (by rw [show List.length (((((((((jS0).set ((7 * x3).toNat) x2)).set ((7 * x3 + 1).toNat) 0)).set ((7 * x3 + 2).toNat) 0)).set ((7 * x3 + 3).toNat) 0) : List Int) = 1613 from by rw [List.length_set, List.length_set, List.length_set, List.length_set]; exact (jS0_len)]; omega) ?_
  refine jT_eq (LN := [(3, (0, 4)), (0, (4, 0)), (1, (4, 1)), (2, (0, 7 * x3))]) (stN := []) (hsN := [jzA_200, (100, [], ((((((((((jS0).set ((7 * x3).toNat) x2)).set ((7 * x3 + 1).toNat) 0)).set ((7 * x3 + 2).toNat) 0)).set ((7 * x3 + 3).toNat) 0)).set ((7 * x3 + 4).toNat) 0)), jgh, jgh, jgh, jgh, jgh, (101, [], [x2, 0, 0, 0, 0, 0]), jgh, jgh, jgh, jgh, jgh, jgh, jgh, jgh]) rfl rfl rfl ?_
  refine jT_xiinc (x := 4) (z := 5) (LN := [(3, (0, 5)), (0, (4, 0)), (1, (4, 1)), (2, (0, 7 * x3))]) (pcN := 23) jI_197_20 rfl rfl (by decide) rfl rfl ?_
  refine jT_xgoto (pcN := 2) jI_197_23 rfl ?_
  refine jT_xiload_n (v := (0, 5)) (pcN := 3) jI_197_2 rfl rfl rfl ?_
  refine jT_xbipush (k := 6) (pcN := 5) jI_197_3 (by decide) rfl ?_
  refine jT_xicF (t := 26) (pcN := 8) jI_197_5 rfl (by decide +kernel) rfl rfl ?_
  refine jT_xaload_n (v := (4, 1)) (pcN := 9) jI_197_8 rfl rfl rfl ?_
  refine jT_xiload_n (v := (0, 7 * x3)) (pcN := 10) jI_197_9 rfl rfl rfl ?_
  refine jT_xiload_n (v := (0, 5)) (pcN := 11) jI_197_10 rfl rfl rfl ?_
  refine jT_xiadd (x := 7 * x3) (y := 5) (z := 7 * x3 + 5) (pcN := 12) jI_197_11 rfl (by omega) rfl ?_
  refine jT_xaload_n (v := (4, 0)) (pcN := 13) jI_197_12 rfl rfl rfl ?_
  refine jT_xgetf (a := 0) (t := 1) (ci := 14) (fi := 9) (c := jzA_200) (v := (4, 7)) (pcN := 16) jI_197_13 rfl rfl rfl rfl rfl rfl rfl ?_
  refine jT_xiload_n (v := (0, 5)) (pcN := 17) jI_197_16 rfl rfl rfl ?_
  refine jT_lald (x := 0) (a := 7) (j := 5) (fs := []) (X := [x2, 0, 0, 0, 0, 0]) jI_197_17 rfl rfl rfl rfl ?_
  refine jT_eq (LN := [(3, (0, 5)), (0, (4, 0)), (1, (4, 1)), (2, (0, 7 * x3))]) (stN := [(1, 0), (0, 7 * x3 + 5), (4, 1)]) (hsN := [jzA_200, (100, [], ((((((((((jS0).set ((7 * x3).toNat) x2)).set ((7 * x3 + 1).toNat) 0)).set ((7 * x3 + 2).toNat) 0)).set ((7 * x3 + 3).toNat) 0)).set ((7 * x3 + 4).toNat) 0)), jgh, jgh, jgh, jgh, jgh, (101, [], [x2, 0, 0, 0, 0, 0]), jgh, jgh, jgh, jgh, jgh, jgh, jgh, jgh]) rfl rfl rfl ?_
  refine jT_xl2i (pcN := 19) jI_197_18 rfl rfl ?_
  refine jT_iast (x := 0) (a := 1) (j := (7 * x3 + 5).toNat) (fs := []) (X := ((((((((((jS0).set ((7 * x3).toNat) x2)).set ((7 * x3 + 1).toNat) 0)).set ((7 * x3 + 2).toNat) 0)).set ((7 * x3 + 3).toNat) 0)).set ((7 * x3 + 4).toNat) 0)) (by rfl) (by rfl) (by rfl) (jw_nn (by omega) (by omega)) (by rw [show List.length (((((((((((jS0).set ((7 * x3).toNat) x2)).set ((7 * x3 + 1).toNat) 0)).set ((7 * x3 + 2).toNat) 0)).set ((7 * x3 + 3).toNat) 0)).set ((7 * x3 + 4).toNat) 0) : List Int) = 1613 from by rw [List.length_set, List.length_set, List.length_set, List.length_set, List.length_set]; exact (jS0_len)]; omega) ?_
  refine jT_eq (LN := [(3, (0, 5)), (0, (4, 0)), (1, (4, 1)), (2, (0, 7 * x3))]) (stN := []) (hsN := [jzA_200, (100, [], ((((((((((((jS0).set ((7 * x3).toNat) x2)).set ((7 * x3 + 1).toNat) 0)).set ((7 * x3 + 2).toNat) 0)).set ((7 * x3 + 3).toNat) 0)).set ((7 * x3 + 4).toNat) 0)).set ((7 * x3 + 5).toNat) 0)), jgh, jgh, jgh, jgh, jgh, (101, [], [x2, 0, 0, 0, 0, 0]), jgh, jgh, jgh, jgh, jgh, jgh, jgh, jgh]) rfl rfl rfl ?_
  refine jT_xiinc (x := 5) (z := 6) (LN := [(3, (0, 6)), (0, (4, 0)), (1, (4, 1)), (2, (0, 7 * x3))]) (pcN := 23) jI_197_20 rfl rfl (by decide) rfl rfl ?_
  refine jT_xgoto (pcN := 2) jI_197_23 rfl ?_
  refine jT_xiload_n (v := (0, 6)) (pcN := 3) jI_197_2 rfl rfl rfl ?_
  refine jT_xbipush (k := 6) (pcN := 5) jI_197_3 (by decide) rfl ?_
  refine jT_xicT (pcN := 26) jI_197_5 rfl (by decide +kernel) rfl ?_
  refine jT_xaload_n (v := (4, 1)) (pcN := 27) jI_197_26 rfl rfl rfl ?_
  refine jT_xiload_n (v := (0, 7 * x3)) (pcN := 28) jI_197_27 rfl rfl rfl ?_
  refine jT_xbipush (k := 6) (pcN := 30) jI_197_28 (by decide) rfl ?_
  refine jT_xiadd (x := 7 * x3) (y := 6) (z := 7 * x3 + 6) (pcN := 31) jI_197_30 rfl (by omega) rfl ?_
  refine jT_xaload_n (v := (4, 0)) (pcN := 32) jI_197_31 rfl rfl rfl ?_
  refine jT_xgetf (a := 0) (t := 1) (ci := 14) (fi := 10) (c := jzA_200) (v := (1, 1)) (pcN := 35) jI_197_32 rfl rfl rfl rfl rfl rfl rfl ?_
  refine jT_xl2i (pcN := 36) jI_197_35 rfl rfl ?_
  refine jT_iast (x := 1) (a := 1) (j := (7 * x3 + 6).toNat) (fs := []) (X := ((((((((((((jS0).set ((7 * x3).toNat) x2)).set ((7 * x3 + 1).toNat) 0)).set ((7 * x3 + 2).toNat) 0)).set ((7 * x3 + 3).toNat) 0)).set ((7 * x3 + 4).toNat) 0)).set ((7 * x3 + 5).toNat) 0)) (by rfl) (by rfl) (by rfl) (jw_nn (by omega) (by omega)) (by rw [show List.length (((((((((((((jS0).set ((7 * x3).toNat) x2)).set ((7 * x3 + 1).toNat) 0)).set ((7 * x3 + 2).toNat) 0)).set ((7 * x3 + 3).toNat) 0)).set ((7 * x3 + 4).toNat) 0)).set ((7 * x3 + 5).toNat) 0) : List Int) = 1613 from by rw [List.length_set, List.length_set, List.length_set, List.length_set, List.length_set, List.length_set]; exact (jS0_len)]; omega) ?_
  refine jT_eq (LN := [(3, (0, 6)), (0, (4, 0)), (1, (4, 1)), (2, (0, 7 * x3))]) (stN := []) (hsN := [jzA_200, (100, [], ((((((((((((((jS0).set ((7 * x3).toNat) x2)).set ((7 * x3 + 1).toNat) 0)).set ((7 * x3 + 2).toNat) 0)).set ((7 * x3 + 3).toNat) 0)).set ((7 * x3 + 4).toNat) 0)).set ((7 * x3 + 5).toNat) 0)).set ((7 * x3 + 6).toNat) 1)), jgh, jgh, jgh, jgh, jgh, (101, [], [x2, 0, 0, 0, 0, 0]), jgh, jgh, jgh, jgh, jgh, jgh, jgh, jgh]) rfl rfl rfl ?_
  exact jT_ret rfl (by decide) (by show 16 ≤ 16; decide) (by omega) (by omega) ⟨rfl, rfl, rfl⟩
theorem jA_196_577 {xs : List Int} {d : Nat} {x2 x3 : Int} (h_x2 : 1 ≤ x2 ∧ x2 ≤ 200) (h_x3 : 0 ≤ x3 ∧ x3 ≤ 7) : jT xs (d + 1) 196 16 0 [(0, (4, 0)), (1, (0, x3))] [] [jzA_200, (100, [], jS0), jgh, jgh, jgh, jgh, jgh, (101, [], [x2, 0, 0, 0, 0, 0]), jgh, jgh, jgh, jgh, jgh, jgh, jgh, jgh] 0 0 (fun k v hsN => k = 0 ∧ v = (0, 1) ∧ hsN = [jzA_200, (100, [], ((((((((((((((jS0).set ((7 * x3).toNat) x2)).set ((7 * x3 + 1).toNat) 0)).set ((7 * x3 + 2).toNat) 0)).set ((7 * x3 + 3).toNat) 0)).set ((7 * x3 + 4).toNat) 0)).set ((7 * x3 + 5).toNat) 0)).set ((7 * x3 + 6).toNat) 1)), jgh, jgh, jgh, jgh, jgh, (101, [], [x2, 0, 0, 0, 0, 0]), jgh, jgh, jgh, jgh, jgh, jgh, jgh, jgh]) := by
  refine jT_xaload_n (v := (4, 0)) (pcN := 1) jI_196_0 rfl rfl rfl ?_
  refine jT_xaload_n (v := (4, 0)) (pcN := 2) jI_196_1 rfl rfl rfl ?_
  refine jT_xgetf (a := 0) (t := 1) (ci := 14) (fi := 1) (c := jzA_200) (v := (4, 1)) (pcN := 5) jI_196_2 rfl rfl rfl rfl rfl rfl rfl ?_
  refine jT_xbipush (k := 7) (pcN := 7) jI_196_5 (by decide) rfl ?_
  refine jT_xiload_n (v := (0, x3)) (pcN := 8) jI_196_7 rfl rfl rfl ?_
  refine jT_ximul (x := 7) (y := x3) (z := 7 * x3) (pcN := 9) jI_196_8 rfl (rfl) rfl ?_
  refine jT_callB [0, 1, 2, 3, 4, 5, 6, 7, 8, 9, 10, 11, 12, 13, 14, 15] (y := 197) (pcN := 12) (dC := 0) (bc1 := 0) (bc2 := 0) (c1 := 0) (c2 := 0) (as := [(4, 0), (4, 1), (0, 7 * x3)]) (asC := [(4, 0), (4, 1), (0, 7 * x3)]) (LN := [(0, (4, 0)), (1, (0, x3))]) (stN := []) (hsC := [jzA_200, (100, [], jS0), jgh, jgh, jgh, jgh, jgh, (101, [], [x2, 0, 0, 0, 0, 0]), jgh, jgh, jgh, jgh, jgh, jgh, jgh, jgh]) (hsD := [jzA_200, (100, [], ((((((((((((((jS0).set ((7 * x3).toNat) x2)).set ((7 * x3 + 1).toNat) 0)).set ((7 * x3 + 2).toNat) 0)).set ((7 * x3 + 3).toNat) 0)).set ((7 * x3 + 4).toNat) 0)).set ((7 * x3 + 5).toNat) 0)).set ((7 * x3 + 6).toNat) 1)), jgh, jgh, jgh, jgh, jgh, (101, [], [x2, 0, 0, 0, 0, 0]), jgh, jgh, jgh, jgh, jgh, jgh, jgh, jgh]) (v := (9, 0)) (st2 := []) (hs2 := [jzA_200, (100, [], ((((((((((((((jS0).set ((7 * x3).toNat) x2)).set ((7 * x3 + 1).toNat) 0)).set ((7 * x3 + 2).toNat) 0)).set ((7 * x3 + 3).toNat) 0)).set ((7 * x3 + 4).toNat) 0)).set ((7 * x3 + 5).toNat) 0)).set ((7 * x3 + 6).toNat) 1)), jgh, jgh, jgh, jgh, jgh, (101, [], [x2, 0, 0, 0, 0, 0]), jgh, jgh, jgh, jgh, jgh, jgh, jgh, jgh]) (jA_197_576 (d := 0) (by omega) (by omega)) (by rfl) (by rfl) (by rfl) (by rfl) ⟨rfl, rfl, rfl, rfl, rfl, rfl, rfl, rfl, rfl, rfl, rfl, rfl, rfl, rfl, rfl, rfl, trivial⟩ (by rfl) (by rfl) (by omega) (by show 16 ≤ 16; omega) (by omega) (by omega) rfl rfl ?_
  refine jT_xaload_n (v := (4, 0)) (pcN := 13) jI_196_12 rfl rfl rfl ?_
  refine jT_xgetf (a := 0) (t := 1) (ci := 14) (fi := 10) (c := jzA_200) (v := (1, 1)) (pcN := 16) jI_196_13 rfl rfl rfl rfl rfl rfl rfl ?_
  refine jT_xl2i (pcN := 17) jI_196_16 rfl rfl ?_
  exact jT_ret rfl (by decide) (by show 16 ≤ 16; decide) (by omega) (by omega) ⟨rfl, rfl, rfl⟩
theorem jA_252_578 {xs : List Int} {d : Nat} {x2 x3 : Int} (h_x2 : 1 ≤ x2 ∧ x2 ≤ 200) (h_x3 : 0 ≤ x3 ∧ x3 ≤ 7) : jT xs (d + 2) 252 24 0 [(0, (4, 0)), (1, (0, 0)), (2, (0, x2)), (3, (0, x3))] [] jpA_248 0 0 (fun k v hsN => k = 0 ∧ v = (0, 0) ∧ hsN = [jzA_200, (100, [], ((((((((((((((jS0).set ((7 * x3).toNat) x2)).set ((7 * x3 + 1).toNat) 0)).set ((7 * x3 + 2).toNat) 0)).set ((7 * x3 + 3).toNat) 0)).set ((7 * x3 + 4).toNat) 0)).set ((7 * x3 + 5).toNat) 0)).set ((7 * x3 + 6).toNat) 1)), (100, [], []), jzA_196, jzA_201, jgh, jgh, (101, [], [x2, 0, 0, 0, 0, 0]), jgh, jgh, jgh, jgh, jgh, jgh, jgh, jgh, (100, [], jS0), jgh, jgh, jgh, jgh, jgh, jgh, jgh]) := by
  refine jT_xaload_n (v := (4, 0)) (pcN := 1) jI_252_0 rfl rfl rfl ?_
  refine jT_xiload_n (v := (0, 0)) (pcN := 2) jI_252_1 rfl rfl rfl ?_
  refine jT_fR [] 24 (y := 238) (pcN := 5) (dC := 1) (bc1 := 0) (bc2 := 0) (c1 := 0) (c2 := 0) (as := [(0, 0)]) (asC := [(0, 0)]) (LN := [(0, (4, 0)), (1, (0, 0)), (2, (0, x2)), (3, (0, x3))]) (stN := [(4, 0)]) (hsC := []) (v := (0, 1)) (st2 := [(0, 1), (4, 0)]) (jA_238_338 (d := 0)) (by rfl) (by rfl) (by decide +kernel) (by rfl) (by rfl) (by omega) (by omega) (by omega) (by omega) rfl ?_
  refine jT_xifF (t := 19) (pcN := 8) jI_252_5 rfl (by decide +kernel) rfl rfl ?_
  refine jT_xiload_n (v := (0, x3)) (pcN := 9) jI_252_8 rfl rfl rfl ?_
  refine jT_fR [] 24 (y := 188) (pcN := 12) (dC := 1) (bc1 := 0) (bc2 := 0) (c1 := 0) (c2 := 0) (as := [(0, x3)]) (asC := [(0, x3)]) (LN := [(0, (4, 0)), (1, (0, 0)), (2, (0, x2)), (3, (0, x3))]) (stN := [(4, 0)]) (hsC := []) (v := (0, 1)) (st2 := [(0, 1), (4, 0)]) (jA_188_37 (d := 0) (by omega)) (by rfl) (by rfl) (by decide +kernel) (by rfl) (by rfl) (by omega) (by omega) (by omega) (by omega) rfl ?_
  refine jT_xifF (t := 19) (pcN := 15) jI_252_12 rfl (by decide +kernel) rfl rfl ?_
  refine jT_xiconst (k := 1) (pcN := 16) jI_252_15 rfl ?_
  refine jT_xgoto (pcN := 20) jI_252_16 rfl ?_
  refine jT_fR [0, 1, 2, 3, 4, 5, 6, 7, 8, 9, 10, 11, 12, 13, 14, 15] 24 (y := 190) (pcN := 23) (dC := 1) (bc1 := 0) (bc2 := 0) (c1 := 0) (c2 := 0) (as := [(4, 0), (0, 1)]) (asC := [(4, 0), (0, 1)]) (LN := [(0, (4, 0)), (1, (0, 0)), (2, (0, x2)), (3, (0, x3))]) (stN := []) (hsC := jpA_22) (v := (0, 0)) (st2 := [(0, 0)]) (jA_190_39 (d := 0)) (by rfl) (by rfl) (by decide +kernel) (by rfl) (by rfl) (by omega) (by omega) (by omega) (by omega) rfl ?_
  refine jT_xifF (t := 45) (pcN := 26) jI_252_23 rfl (by decide +kernel) rfl rfl ?_
  refine jT_xaload_n (v := (4, 0)) (pcN := 27) jI_252_26 rfl rfl rfl ?_
  refine jT_xiload_n (v := (0, x2)) (pcN := 28) jI_252_27 rfl rfl rfl ?_
  refine jT_xi2l (x := x2) (z := x2) (pcN := 29) jI_252_28 rfl (jw_idd (by omega) (by omega)) rfl ?_
  refine jT_adv 2 (pcN := 35) (LN := [(0, (4, 0)), (1, (0, 0)), (2, (0, x2)), (3, (0, x3))]) (stN := [(1, 200), (1, (-200)), (1, x2), (4, 0)]) (hsN := jpA_248) (c1 := 0) (s1 := 0) (c2 := 0) (s2 := 0) (by exact rfl) ?_ (by omega) (by omega)
  refine jT_fR [] 24 (y := 189) (pcN := 38) (dC := 0) (bc1 := 0) (bc2 := 0) (c1 := 0) (c2 := 0) (as := [(1, x2), (1, (-200)), (1, 200)]) (asC := [(1, x2), (1, (-200)), (1, 200)]) (LN := [(0, (4, 0)), (1, (0, 0)), (2, (0, x2)), (3, (0, x3))]) (stN := [(4, 0)]) (hsC := []) (v := (0, 1)) (st2 := [(0, 1), (4, 0)]) (jT_in_ok (d := 0) (v := x2) (lo := (-200)) (hi := 200) (by omega) (by omega) (by omega) (by omega) (by omega)) (by rfl) (by rfl) (by decide +kernel) (by rfl) (by rfl) (by omega) (by omega) (by omega) (by omega) rfl ?_
  refine jT_xiconst (k := 2) (pcN := 39) jI_252_38 rfl ?_
  refine jT_fR [0] 24 (y := 191) (pcN := 42) (dC := 0) (bc1 := 0) (bc2 := 0) (c1 := 0) (c2 := 0) (as := [(4, 0), (0, 1), (0, 2)]) (asC := [(4, 0), (0, 1), (0, 2)]) (LN := [(0, (4, 0)), (1, (0, 0)), (2, (0, x2)), (3, (0, x3))]) (stN := []) (hsC := [jgh]) (v := (0, 0)) (st2 := [(0, 0)]) (jA_191_49 (d := 0)) (by rfl) (by rfl) (by decide +kernel) (by rfl) (by rfl) (by omega) (by omega) (by omega) (by omega) rfl ?_
  refine jT_xifT (pcN := 47) jI_252_42 rfl (by decide +kernel) rfl ?_
  refine jT_xiload_n (v := (0, x2)) (pcN := 48) jI_252_47 rfl rfl rfl ?_
  refine jT_xaload_n (v := (4, 0)) (pcN := 49) jI_252_48 rfl rfl rfl ?_
  refine jT_xiload_n (v := (0, 0)) (pcN := 50) jI_252_49 rfl rfl rfl ?_
  refine jT_fR [0, 1, 2, 3, 4, 5, 6, 7, 8, 9, 10, 11, 12, 13, 14, 15] 24 (y := 245) (pcN := 53) (dC := 0) (bc1 := 0) (bc2 := 0) (c1 := 0) (c2 := 0) (as := [(4, 0), (0, 0)]) (asC := [(4, 0), (0, 0)]) (LN := [(0, (4, 0)), (1, (0, 0)), (2, (0, x2)), (3, (0, x3))]) (stN := [(0, x2)]) (hsC := jpA_1519) (v := (0, 1)) (st2 := [(0, 1), (0, x2)]) (jA_245_339 (d := 0)) (by rfl) (by rfl) (by decide +kernel) (by rfl) (by rfl) (by omega) (by omega) (by omega) (by omega) rfl ?_
  refine jT_fR [] 24 (y := 375) (pcN := 56) (dC := 0) (bc1 := 0) (bc2 := 0) (c1 := 0) (c2 := 0) (as := [(0, x2), (0, 1)]) (asC := [(0, x2), (0, 1)]) (LN := [(0, (4, 0)), (1, (0, 0)), (2, (0, x2)), (3, (0, x3))]) (stN := []) (hsC := []) (v := (0, x2 % 1)) (st2 := [(0, x2 % 1)]) (jT_fmI1 (d := 0) (x := x2) (by omega)) (by rfl) (by rfl) (by decide +kernel) (by rfl) (by rfl) (by omega) (by omega) (by omega) (by omega) rfl ?_
  refine jT_eq (LN := [(0, (4, 0)), (1, (0, 0)), (2, (0, x2)), (3, (0, x3))]) (stN := [(0, 0)]) (hsN := [jzA_21, (100, [], jS0), (100, [], []), jzA_196, jzA_197, jgh, jgh, (101, [], [0, 0, 0, 0, 0, 0]), jgh, jgh, jgh, jgh, jgh, jgh, jgh, jgh, (100, [], (List.replicate 1613 0)), jgh, jgh, jgh, jgh, jgh, jgh, jgh]) (rfl) (by simp only [List.cons.injEq, Prod.mk.injEq, and_true, true_and] <;> ((try unfold jw); (try unfold jwl); omega)) (rfl) ?_
  refine jT_xistore (v := (0, 0)) (LN := [(4, (0, 0)), (0, (4, 0)), (1, (0, 0)), (2, (0, x2)), (3, (0, x3))]) (pcN := 58) jI_252_56 rfl rfl rfl rfl ?_
  refine jT_xaload_n (v := (4, 0)) (pcN := 59) jI_252_58 rfl rfl rfl ?_
  refine jT_xaload_n (v := (4, 0)) (pcN := 60) jI_252_59 rfl rfl rfl ?_
  refine jT_xgetf (a := 0) (t := 1) (ci := 14) (fi := 1) (c := jzA_21) (v := (4, 1)) (pcN := 63) jI_252_60 rfl rfl rfl rfl rfl rfl rfl ?_
  refine jT_xiload_n (v := (0, 0)) (pcN := 64) jI_252_63 rfl rfl rfl ?_
  refine jT_xiload (v := (0, 0)) (pcN := 66) jI_252_64 rfl rfl rfl ?_
  refine jT_fR [] 24 (y := 242) (pcN := 69) (dC := 0) (bc1 := 0) (bc2 := 0) (c1 := 0) (c2 := 0) (as := [(0, 0), (0, 0)]) (asC := [(0, 0), (0, 0)]) (LN := [(4, (0, 0)), (0, (4, 0)), (1, (0, 0)), (2, (0, x2)), (3, (0, x3))]) (stN := [(4, 1), (4, 0)]) (hsC := []) (v := (0, 57)) (st2 := [(0, 57), (4, 1), (4, 0)]) (jA_242_340 (d := 0)) (by rfl) (by rfl) (by decide +kernel) (by rfl) (by rfl) (by omega) (by omega) (by omega) (by omega) rfl ?_
  refine jT_fR [0, 1, 2, 3, 4, 5, 6, 7, 8, 9, 10, 11, 12, 13, 14, 15] 24 (y := 203) (pcN := 72) (dC := 0) (bc1 := 0) (bc2 := 0) (c1 := 0) (c2 := 0) (as := [(4, 0), (4, 1), (0, 57)]) (asC := [(4, 0), (4, 1), (0, 57)]) (LN := [(4, (0, 0)), (0, (4, 0)), (1, (0, 0)), (2, (0, x2)), (3, (0, x3))]) (stN := []) (hsC := jpA_130) (v := (9, 0)) (st2 := []) (jA_203_344 (d := 0)) (by rfl) (by rfl) (by decide +kernel) (by rfl) (by rfl) (by omega) (by omega) (by omega) (by omega) rfl ?_
  refine jT_xaload_n (v := (4, 0)) (pcN := 73) jI_252_72 rfl rfl rfl ?_
  refine jT_xgetf (a := 0) (t := 1) (ci := 14) (fi := 9) (c := jzA_21) (v := (4, 7)) (pcN := 76) jI_252_73 rfl rfl rfl rfl rfl rfl rfl ?_
  refine jT_xiconst (k := 0) (pcN := 77) jI_252_76 rfl ?_
  refine jT_adv 1 (pcN := 78) (LN := [(4, (0, 0)), (0, (4, 0)), (1, (0, 0)), (2, (0, x2)), (3, (0, x3))]) (stN := [(0, 0), (4, 7), (0, 0), (4, 7)]) (hsN := jpA_248) (c1 := 0) (s1 := 0) (c2 := 0) (s2 := 0) (by exact rfl) ?_ (by omega) (by omega)
  refine jT_lald (x := 0) (a := 7) (j := 0) (fs := []) (X := [0, 0, 0, 0, 0, 0]) jI_252_78 rfl rfl rfl rfl ?_
  refine jT_eq (LN := [(4, (0, 0)), (0, (4, 0)), (1, (0, 0)), (2, (0, x2)), (3, (0, x3))]) (stN := [(1, 0), (0, 0), (4, 7)]) (hsN := jpA_248) rfl rfl rfl ?_
  refine jT_xaload_n (v := (4, 0)) (pcN := 80) jI_252_79 rfl rfl rfl ?_
  refine jT_xgetf (a := 0) (t := 1) (ci := 14) (fi := 10) (c := jzA_21) (v := (1, 1)) (pcN := 83) jI_252_80 rfl rfl rfl rfl rfl rfl rfl ?_
  refine jT_xiload_n (v := (0, x2)) (pcN := 84) jI_252_83 rfl rfl rfl ?_
  refine jT_xaload_n (v := (4, 0)) (pcN := 85) jI_252_84 rfl rfl rfl ?_
  refine jT_xiload_n (v := (0, 0)) (pcN := 86) jI_252_85 rfl rfl rfl ?_
  refine jT_fR [0, 1, 2, 3, 4, 5, 6, 7, 8, 9, 10, 11, 12, 13, 14, 15] 24 (y := 245) (pcN := 89) (dC := 0) (bc1 := 0) (bc2 := 0) (c1 := 0) (c2 := 0) (as := [(4, 0), (0, 0)]) (asC := [(4, 0), (0, 0)]) (LN := [(4, (0, 0)), (0, (4, 0)), (1, (0, 0)), (2, (0, x2)), (3, (0, x3))]) (stN := [(0, x2), (1, 1), (1, 0), (0, 0), (4, 7)]) (hsC := jpA_1519) (v := (0, 1)) (st2 := [(0, 1), (0, x2), (1, 1), (1, 0), (0, 0), (4, 7)]) (jA_245_339 (d := 0)) (by rfl) (by rfl) (by decide +kernel) (by rfl) (by rfl) (by omega) (by omega) (by omega) (by omega) rfl ?_
  refine jT_fR [] 24 (y := 376) (pcN := 92) (dC := 0) (bc1 := 0) (bc2 := 0) (c1 := 0) (c2 := 0) (as := [(0, x2), (0, 1)]) (asC := [(0, x2), (0, 1)]) (LN := [(4, (0, 0)), (0, (4, 0)), (1, (0, 0)), (2, (0, x2)), (3, (0, x3))]) (stN := [(1, 1), (1, 0), (0, 0), (4, 7)]) (hsC := []) (v := (0, x2 / 1)) (st2 := [(0, x2 / 1), (1, 1), (1, 0), (0, 0), (4, 7)]) (jT_fdI1 (d := 0) (x := x2) (by omega)) (by rfl) (by rfl) (by decide +kernel) (by rfl) (by rfl) (by omega) (by omega) (by omega) (by omega) rfl ?_
  refine jT_eq (LN := [(4, (0, 0)), (0, (4, 0)), (1, (0, 0)), (2, (0, x2)), (3, (0, x3))]) (stN := [(0, x2), (1, 1), (1, 0), (0, 0), (4, 7)]) (hsN := [jzA_21, (100, [], jS0), (100, [], []), jzA_196, jzA_197, jgh, jgh, (101, [], [0, 0, 0, 0, 0, 0]), jgh, jgh, jgh, jgh, jgh, jgh, jgh, jgh, (100, [], (List.replicate 1613 0)), jgh, jgh, jgh, jgh, jgh, jgh, jgh]) (rfl) (by simp only [List.cons.injEq, Prod.mk.injEq, and_true, true_and] <;> ((try unfold jw); (try unfold jwl); omega)) (rfl) ?_
  refine jT_xi2l (x := x2) (z := x2) (pcN := 93) jI_252_92 rfl (jw_idd (by omega) (by omega)) rfl ?_
  refine jT_xlmul (x := 1) (y := x2) (z := x2) (pcN := 94) jI_252_93 rfl (by omega) rfl ?_
  refine jT_xladd (x := 0) (y := x2) (z := x2) (pcN := 95) jI_252_94 rfl (by omega) rfl ?_
  refine jT_adv 1 (pcN := 96) (LN := [(4, (0, 0)), (0, (4, 0)), (1, (0, 0)), (2, (0, x2)), (3, (0, x3))]) (stN := []) (hsN := [jzA_21, (100, [], jS0), (100, [], []), jzA_196, jzA_197, jgh, jgh, (101, [], [x2, 0, 0, 0, 0, 0]), jgh, jgh, jgh, jgh, jgh, jgh, jgh, jgh, (100, [], (List.replicate 1613 0)), jgh, jgh, jgh, jgh, jgh, jgh, jgh]) (c1 := 0) (s1 := 0) (c2 := 0) (s2 := 0) (by exact rfl) ?_ (by omega) (by omega)
  refine jT_xaload_n (v := (4, 0)) (pcN := 97) jI_252_96 rfl rfl rfl ?_
  refine jT_xaload_n (v := (4, 0)) (pcN := 98) jI_252_97 rfl rfl rfl ?_
  refine jT_callA [0, 1, 2, 3, 4, 5, 6, 7, 8, 9, 10, 11, 12, 13, 14, 15] (y := 205) (pcN := 101) (dC := 1) (bc1 := 0) (bc2 := 0) (c1 := 0) (c2 := 0) (as := [(4, 0)]) (asC := [(4, 0)]) (LN := [(4, (0, 0)), (0, (4, 0)), (1, (0, 0)), (2, (0, x2)), (3, (0, x3))]) (stN := [(4, 0)]) (hsC := [jzA_21, jgh, jgh, jgh, jgh, jgh, jgh, (101, [], [x2, 0, 0, 0, 0, 0]), jgh, jgh, jgh, jgh, jgh, jgh, jgh, jgh]) (ex := []) (v := (0, 1)) (st2 := [(0, 1), (4, 0)]) (hs2 := [jzA_21, (100, [], jS0), (100, [], []), jzA_196, jzA_197, jgh, jgh, (101, [], [x2, 0, 0, 0, 0, 0]), jgh, jgh, jgh, jgh, jgh, jgh, jgh, jgh, (100, [], (List.replicate 1613 0)), jgh, jgh, jgh, jgh, jgh, jgh, jgh]) (jA_205_575 (d := 0) (by omega)) (by rfl) (by rfl) (by rfl) (by rfl) ⟨rfl, rfl, rfl, rfl, rfl, rfl, rfl, rfl, rfl, rfl, rfl, rfl, rfl, rfl, rfl, rfl, trivial⟩ (by rfl) (by rfl) (by omega) (by show 24 ≤ 24; omega) (by omega) (by omega) rfl rfl ?_
  refine jT_xiconst (k := 3) (pcN := 102) jI_252_101 rfl ?_
  refine jT_callA [0] (y := 191) (pcN := 105) (dC := 0) (bc1 := 0) (bc2 := 0) (c1 := 0) (c2 := 0) (as := [(4, 0), (0, 1), (0, 3)]) (asC := [(4, 0), (0, 1), (0, 3)]) (LN := [(4, (0, 0)), (0, (4, 0)), (1, (0, 0)), (2, (0, x2)), (3, (0, x3))]) (stN := []) (hsC := [jgh]) (ex := []) (v := (0, 0)) (st2 := [(0, 0)]) (hs2 := [jzA_21, (100, [], jS0), (100, [], []), jzA_196, jzA_197, jgh, jgh, (101, [], [x2, 0, 0, 0, 0, 0]), jgh, jgh, jgh, jgh, jgh, jgh, jgh, jgh, (100, [], (List.replicate 1613 0)), jgh, jgh, jgh, jgh, jgh, jgh, jgh]) (jA_191_117 (d := 0)) (by rfl) (by rfl) (by rfl) (by rfl) ⟨rfl, trivial⟩ (by rfl) (by rfl) (by omega) (by show 24 ≤ 24; omega) (by omega) (by omega) rfl rfl ?_
  refine jT_xifT (pcN := 110) jI_252_105 rfl (by decide +kernel) rfl ?_
  refine jT_xaload_n (v := (4, 0)) (pcN := 111) jI_252_110 rfl rfl rfl ?_
  refine jT_callB [0, 1, 2, 3, 4, 5, 6, 7, 8, 9, 10, 11, 12, 13, 14, 15, 16, 17, 18, 19, 20, 21, 22, 23] (y := 195) (pcN := 114) (dC := 0) (bc1 := 0) (bc2 := 0) (c1 := 0) (c2 := 0) (as := [(4, 0)]) (asC := [(4, 0)]) (LN := [(4, (0, 0)), (0, (4, 0)), (1, (0, 0)), (2, (0, x2)), (3, (0, x3))]) (stN := []) (hsC := jpA_198) (hsD := jpA_202) (v := (9, 0)) (st2 := []) (hs2 := [jzA_200, (100, [], jS0), (100, [], []), jzA_196, jzA_201, jgh, jgh, (101, [], [x2, 0, 0, 0, 0, 0]), jgh, jgh, jgh, jgh, jgh, jgh, jgh, jgh, (100, [], jS0), jgh, jgh, jgh, jgh, jgh, jgh, jgh]) (jA_195_50 (d := 0)) (by rfl) (by rfl) (by rfl) (by rfl) ⟨rfl, rfl, rfl, rfl, rfl, rfl, rfl, rfl, rfl, rfl, rfl, rfl, rfl, rfl, rfl, rfl, rfl, rfl, rfl, rfl, rfl, rfl, rfl, rfl, trivial⟩ (by rfl) (by rfl) (by omega) (by show 24 ≤ 24; omega) (by omega) (by omega) rfl rfl ?_
  refine jT_xaload_n (v := (4, 0)) (pcN := 115) jI_252_114 rfl rfl rfl ?_
  refine jT_xiload_n (v := (0, x3)) (pcN := 116) jI_252_115 rfl rfl rfl ?_
  refine jT_callB [0, 1, 2, 3, 4, 5, 6, 7, 8, 9, 10, 11, 12, 13, 14, 15] (y := 196) (pcN := 119) (dC := 1) (bc1 := 0) (bc2 := 0) (c1 := 0) (c2 := 0) (as := [(4, 0), (0, x3)]) (asC := [(4, 0), (0, x3)]) (LN := [(4, (0, 0)), (0, (4, 0)), (1, (0, 0)), (2, (0, x2)), (3, (0, x3))]) (stN := []) (hsC := [jzA_200, (100, [], jS0), jgh, jgh, jgh, jgh, jgh, (101, [], [x2, 0, 0, 0, 0, 0]), jgh, jgh, jgh, jgh, jgh, jgh, jgh, jgh]) (hsD := [jzA_200, (100, [], ((((((((((((((jS0).set ((7 * x3).toNat) x2)).set ((7 * x3 + 1).toNat) 0)).set ((7 * x3 + 2).toNat) 0)).set ((7 * x3 + 3).toNat) 0)).set ((7 * x3 + 4).toNat) 0)).set ((7 * x3 + 5).toNat) 0)).set ((7 * x3 + 6).toNat) 1)), jgh, jgh, jgh, jgh, jgh, (101, [], [x2, 0, 0, 0, 0, 0]), jgh, jgh, jgh, jgh, jgh, jgh, jgh, jgh]) (v := (0, 1)) (st2 := [(0, 1)]) (hs2 := [jzA_200, (100, [], ((((((((((((((jS0).set ((7 * x3).toNat) x2)).set ((7 * x3 + 1).toNat) 0)).set ((7 * x3 + 2).toNat) 0)).set ((7 * x3 + 3).toNat) 0)).set ((7 * x3 + 4).toNat) 0)).set ((7 * x3 + 5).toNat) 0)).set ((7 * x3 + 6).toNat) 1)), (100, [], []), jzA_196, jzA_201, jgh, jgh, (101, [], [x2, 0, 0, 0, 0, 0]), jgh, jgh, jgh, jgh, jgh, jgh, jgh, jgh, (100, [], jS0), jgh, jgh, jgh, jgh, jgh, jgh, jgh]) (jA_196_577 (d := 0) (by omega) (by omega)) (by rfl) (by rfl) (by rfl) (by rfl) ⟨rfl, rfl, rfl, rfl, rfl, rfl, rfl, rfl, rfl, rfl, rfl, rfl, rfl, rfl, rfl, rfl, trivial⟩ (by rfl) (by rfl) (by omega) (by show 24 ≤ 24; omega) (by omega) (by omega) rfl rfl ?_
  refine jT_adv 1 (pcN := 120) (LN := [(4, (0, 0)), (0, (4, 0)), (1, (0, 0)), (2, (0, x2)), (3, (0, x3))]) (stN := []) (hsN := [jzA_200, (100, [], ((((((((((((((jS0).set ((7 * x3).toNat) x2)).set ((7 * x3 + 1).toNat) 0)).set ((7 * x3 + 2).toNat) 0)).set ((7 * x3 + 3).toNat) 0)).set ((7 * x3 + 4).toNat) 0)).set ((7 * x3 + 5).toNat) 0)).set ((7 * x3 + 6).toNat) 1)), (100, [], []), jzA_196, jzA_201, jgh, jgh, (101, [], [x2, 0, 0, 0, 0, 0]), jgh, jgh, jgh, jgh, jgh, jgh, jgh, jgh, (100, [], jS0), jgh, jgh, jgh, jgh, jgh, jgh, jgh]) (c1 := 0) (s1 := 0) (c2 := 0) (s2 := 0) (by exact rfl) ?_ (by omega) (by omega)
  refine jT_xiload (v := (0, 0)) (pcN := 122) jI_252_120 rfl rfl rfl ?_
  exact jT_ret rfl (by decide) (by show 24 ≤ 24; decide) (by omega) (by omega) ⟨rfl, rfl, rfl⟩
def jpA_2283 : List JC := [jzA_5, jgh, jgh, jgh, jgh, jgh, jgh, jgh, jgh, jgh, jzA_79, jzA_88, jzA_89, (117, [], [18, 19, 20, 21]), jgh, jgh, jgh, (4, [(4, 22), (1, 1)], []), jgh, (7, [(4, 23), (4, (-1)), (4, (-1))], []), jgh, jgh, (101, [], [0, 0, 0, 0, 0, 0]), (114, [], [17])]
theorem jA_132_579 {xs : List Int} {d : Nat} {x2 x3 : Int} (h_x2 : (-200) ≤ x2 ∧ x2 ≤ (-1)) (h_x3 : 0 ≤ x3 ∧ x3 ≤ 7) : jT xs (d + 3) 132 24 0 [(0, (4, 0)), (1, (0, 1)), (2, (0, x2)), (3, (0, x3))] [] jpA_2283 4 21 (fun k v hsN => k = 0 ∧ v = (0, 0) ∧ hsN = [jzA_2217, jgh, jgh, jgh, jgh, jgh, jgh, jgh, jgh, jgh, jzA_102, jzA_88, jzA_89, (117, [], [18, 19, 20, 21]), jgh, jgh, jgh, (4, [(4, 22), (1, 1)], []), jgh, (7, [(4, 23), (4, (-1)), (4, (-1))], []), jgh, jgh, (101, [], [0, 0, 0, 0, 0, 0]), (114, [], [17]), (101, [], [x2, 0, 0, 0, 0, 0]), (4, [(4, 24), (1, 1)], []), jgh, jzA_2216]) := by
  refine jT_xaload_n (v := (4, 0)) (pcN := 1) jI_132_0 rfl rfl rfl ?_
  refine jT_xiload_n (v := (0, 1)) (pcN := 2) jI_132_1 rfl rfl rfl ?_
  refine jT_xiconst (k := 4) (pcN := 3) jI_132_2 rfl ?_
  refine jT_fR [0] 24 (y := 115) (pcN := 6) (dC := 0) (bc1 := 0) (bc2 := 0) (c1 := 4) (c2 := 21) (as := [(4, 0), (0, 1), (0, 4)]) (asC := [(4, 0), (0, 1), (0, 4)]) (LN := [(0, (4, 0)), (1, (0, 1)), (2, (0, x2)), (3, (0, x3))]) (stN := []) (hsC := [jgh]) (v := (9, 0)) (st2 := []) (jA_115_356 (d := 0)) (by rfl) (by rfl) (by decide +kernel) (by rfl) (by rfl) (by omega) (by omega) (by omega) (by omega) rfl ?_
  refine jT_xaload_n (v := (4, 0)) (pcN := 7) jI_132_6 rfl rfl rfl ?_
  refine jT_xiload_n (v := (0, x3)) (pcN := 8) jI_132_7 rfl rfl rfl ?_
  refine jT_xbipush (k := 8) (pcN := 10) jI_132_8 (by decide) rfl ?_
  refine jT_fR [0] 24 (y := 115) (pcN := 13) (dC := 0) (bc1 := 0) (bc2 := 0) (c1 := 4) (c2 := 21) (as := [(4, 0), (0, x3), (0, 8)]) (asC := [(4, 0), (0, x3), (0, 8)]) (LN := [(0, (4, 0)), (1, (0, 1)), (2, (0, x2)), (3, (0, x3))]) (stN := []) (hsC := [jgh]) (v := (9, 0)) (st2 := []) (jA_115_23 (d := 0) (by omega)) (by rfl) (by rfl) (by decide +kernel) (by rfl) (by rfl) (by omega) (by omega) (by omega) (by omega) rfl ?_
  refine jT_xaload_n (v := (4, 0)) (pcN := 14) jI_132_13 rfl rfl rfl ?_
  refine jT_xiload_n (v := (0, x2)) (pcN := 15) jI_132_14 rfl rfl rfl ?_
  refine jT_xsipush (k := (-200)) (pcN := 18) jI_132_15 (by decide) rfl ?_
  refine jT_xsipush (k := 200) (pcN := 21) jI_132_18 (by decide) rfl ?_
  refine jT_fR [0] 24 (y := 116) (pcN := 24) (dC := 0) (bc1 := 0) (bc2 := 0) (c1 := 4) (c2 := 21) (as := [(4, 0), (0, x2), (0, (-200)), (0, 200)]) (asC := [(4, 0), (0, x2), (0, (-200)), (0, 200)]) (LN := [(0, (4, 0)), (1, (0, 1)), (2, (0, x2)), (3, (0, x3))]) (stN := []) (hsC := [jgh]) (v := (9, 0)) (st2 := []) (jA_116_542 (d := 0) (by omega)) (by rfl) (by rfl) (by decide +kernel) (by rfl) (by rfl) (by omega) (by omega) (by omega) (by omega) rfl ?_
  refine jT_xaload_n (v := (4, 0)) (pcN := 25) jI_132_24 rfl rfl rfl ?_
  refine jT_xgetf (a := 0) (t := 1) (ci := 13) (fi := 11) (c := jzA_5) (v := (4, 11)) (pcN := 28) jI_132_25 rfl rfl rfl rfl rfl rfl rfl ?_
  refine jT_xiload_n (v := (0, 1)) (pcN := 29) jI_132_28 rfl rfl rfl ?_
  refine jT_fR [11, 12, 13, 14, 15, 16, 18, 19, 20, 21] 24 (y := 56) (pcN := 32) (dC := 0) (bc1 := 0) (bc2 := 0) (c1 := 4) (c2 := 21) (as := [(4, 11), (0, 1)]) (asC := [(4, 0), (0, 1)]) (LN := [(0, (4, 0)), (1, (0, 1)), (2, (0, x2)), (3, (0, x3))]) (stN := []) (hsC := jpA_1446) (v := (4, 7)) (st2 := [(4, 19)]) (jA_56_357 (d := 0)) (by rfl) (by rfl) (by decide +kernel) (by rfl) (by rfl) (by omega) (by omega) (by omega) (by omega) rfl ?_
  refine jT_xastore (v := (4, 19)) (LN := [(4, (4, 19)), (0, (4, 0)), (1, (0, 1)), (2, (0, x2)), (3, (0, x3))]) (pcN := 34) jI_132_32 rfl rfl rfl rfl ?_
  refine jT_xiconst (k := 1) (pcN := 35) jI_132_34 rfl ?_
  refine jT_xaload (v := (4, 19)) (pcN := 37) jI_132_35 rfl rfl rfl ?_
  refine jT_fR [19, 23, 17] 24 (y := 29) (pcN := 40) (dC := 0) (bc1 := 0) (bc2 := 0) (c1 := 4) (c2 := 21) (as := [(4, 19)]) (asC := [(4, 0)]) (LN := [(4, (4, 19)), (0, (4, 0)), (1, (0, 1)), (2, (0, x2)), (3, (0, x3))]) (stN := [(0, 1)]) (hsC := [(7, [(4, 1), (4, (-1)), (4, (-1))], []), (114, [], [2]), jgh]) (v := (0, 1)) (st2 := [(0, 1), (0, 1)]) (jA_29_416 (d := 0)) (by rfl) (by rfl) (by decide +kernel) (by rfl) (by rfl) (by omega) (by omega) (by omega) (by omega) rfl ?_
  refine jT_mm0 (x := 1) (y := 1) (z := 1) (by rfl) (by rfl) (by rfl) (by rfl) (jw_idd (by omega) (by omega)) (jw_idd (by omega) (by omega)) (by rw [decide_eq_false (show ¬ ((1 : Int) < 1) by omega)]; rfl) ?_
  refine jT_xistore (v := (0, 1)) (LN := [(5, (0, 1)), (4, (4, 19)), (0, (4, 0)), (1, (0, 1)), (2, (0, x2)), (3, (0, x3))]) (pcN := 45) jI_132_43 rfl rfl rfl rfl ?_
  refine jT_xiload_n (v := (0, x2)) (pcN := 46) jI_132_45 rfl rfl rfl ?_
  refine jT_xiload (v := (0, 1)) (pcN := 48) jI_132_46 rfl rfl rfl ?_
  refine jT_fR [] 24 (y := 375) (pcN := 51) (dC := 0) (bc1 := 0) (bc2 := 0) (c1 := 4) (c2 := 21) (as := [(0, x2), (0, 1)]) (asC := [(0, x2), (0, 1)]) (LN := [(5, (0, 1)), (4, (4, 19)), (0, (4, 0)), (1, (0, 1)), (2, (0, x2)), (3, (0, x3))]) (stN := []) (hsC := []) (v := (0, x2 % 1)) (st2 := [(0, x2 % 1)]) (jT_fmI1 (d := 0) (x := x2) (by omega)) (by rfl) (by rfl) (by decide +kernel) (by rfl) (by rfl) (by omega) (by omega) (by omega) (by omega) rfl ?_
  refine jT_eq (LN := [(5, (0, 1)), (4, (4, 19)), (0, (4, 0)), (1, (0, 1)), (2, (0, x2)), (3, (0, x3))]) (stN := [(0, 0)]) (hsN := [jzA_5, jgh, jgh, jgh, jgh, jgh, jgh, jgh, jgh, jgh, jzA_79, jzA_88, jzA_89, (117, [], [18, 19, 20, 21]), jgh, jgh, jgh, (4, [(4, 22), (1, 1)], []), jgh, (7, [(4, 23), (4, (-1)), (4, (-1))], []), jgh, jgh, (101, [], [0, 0, 0, 0, 0, 0]), (114, [], [17])]) (rfl) (by simp only [List.cons.injEq, Prod.mk.injEq, and_true, true_and] <;> ((try unfold jw); (try unfold jwl); omega)) (rfl) ?_
  refine jT_xistore (v := (0, 0)) (LN := [(6, (0, 0)), (5, (0, 1)), (4, (4, 19)), (0, (4, 0)), (1, (0, 1)), (2, (0, x2)), (3, (0, x3))]) (pcN := 53) jI_132_51 rfl rfl rfl rfl ?_
  refine jT_xaload (v := (4, 19)) (pcN := 55) jI_132_53 rfl rfl rfl ?_
  refine jT_xiload (v := (0, 0)) (pcN := 57) jI_132_55 rfl rfl rfl ?_
  refine jT_fR [19, 23, 17] 24 (y := 30) (pcN := 60) (dC := 0) (bc1 := 0) (bc2 := 0) (c1 := 4) (c2 := 21) (as := [(4, 19), (0, 0)]) (asC := [(4, 0), (0, 0)]) (LN := [(6, (0, 0)), (5, (0, 1)), (4, (4, 19)), (0, (4, 0)), (1, (0, 1)), (2, (0, x2)), (3, (0, x3))]) (stN := []) (hsC := [(7, [(4, 1), (4, (-1)), (4, (-1))], []), (114, [], [2]), jgh]) (v := (4, 2)) (st2 := [(4, 17)]) (jA_30_538 (d := 0)) (by rfl) (by rfl) (by decide +kernel) (by rfl) (by rfl) (by omega) (by omega) (by omega) (by omega) rfl ?_
  refine jT_xlconst (z := 1) (pcN := 61) jI_132_60 rfl rfl ?_
  refine jT_xlconst (z := 1) (pcN := 62) jI_132_61 rfl rfl ?_
  refine jT_xiload_n (v := (0, x2)) (pcN := 63) jI_132_62 rfl rfl rfl ?_
  refine jT_xiload (v := (0, 1)) (pcN := 65) jI_132_63 rfl rfl rfl ?_
  refine jT_fR [] 24 (y := 376) (pcN := 68) (dC := 0) (bc1 := 0) (bc2 := 0) (c1 := 4) (c2 := 21) (as := [(0, x2), (0, 1)]) (asC := [(0, x2), (0, 1)]) (LN := [(6, (0, 0)), (5, (0, 1)), (4, (4, 19)), (0, (4, 0)), (1, (0, 1)), (2, (0, x2)), (3, (0, x3))]) (stN := [(1, 1), (1, 1), (4, 17)]) (hsC := []) (v := (0, x2 / 1)) (st2 := [(0, x2 / 1), (1, 1), (1, 1), (4, 17)]) (jT_fdI1 (d := 0) (x := x2) (by omega)) (by rfl) (by rfl) (by decide +kernel) (by rfl) (by rfl) (by omega) (by omega) (by omega) (by omega) rfl ?_
  refine jT_eq (LN := [(6, (0, 0)), (5, (0, 1)), (4, (4, 19)), (0, (4, 0)), (1, (0, 1)), (2, (0, x2)), (3, (0, x3))]) (stN := [(0, x2), (1, 1), (1, 1), (4, 17)]) (hsN := [jzA_5, jgh, jgh, jgh, jgh, jgh, jgh, jgh, jgh, jgh, jzA_79, jzA_88, jzA_89, (117, [], [18, 19, 20, 21]), jgh, jgh, jgh, (4, [(4, 22), (1, 1)], []), jgh, (7, [(4, 23), (4, (-1)), (4, (-1))], []), jgh, jgh, (101, [], [0, 0, 0, 0, 0, 0]), (114, [], [17])]) (rfl) (by simp only [List.cons.injEq, Prod.mk.injEq, and_true, true_and] <;> ((try unfold jw); (try unfold jwl); omega)) (rfl) ?_
  refine jT_xi2l (x := x2) (z := x2) (pcN := 69) jI_132_68 rfl (jw_idd (by omega) (by omega)) rfl ?_
  refine jT_fA [17, 22] 24 (y := 10) (pcN := 72) (dC := 2) (bc1 := 2) (bc2 := 8) (c1 := 2) (c2 := 13) (as := [(4, 17), (1, 1), (1, 1), (1, x2)]) (asC := [(4, 0), (1, 1), (1, 1), (1, x2)]) (LN := [(6, (0, 0)), (5, (0, 1)), (4, (4, 19)), (0, (4, 0)), (1, (0, 1)), (2, (0, x2)), (3, (0, x3))]) (stN := []) (hsC := [(4, [(4, 1), (1, 1)], []), (101, [], [0, 0, 0, 0, 0, 0])]) (ex := [(101, [], [x2, 0, 0, 0, 0, 0]), (4, [(4, 2), (1, 1)], [])]) (v := (4, 3)) (st2 := [(4, 25)]) (hs2 := [jzA_5, jgh, jgh, jgh, jgh, jgh, jgh, jgh, jgh, jgh, jzA_79, jzA_88, jzA_89, (117, [], [18, 19, 20, 21]), jgh, jgh, jgh, (4, [(4, 22), (1, 1)], []), jgh, (7, [(4, 23), (4, (-1)), (4, (-1))], []), jgh, jgh, (101, [], [0, 0, 0, 0, 0, 0]), (114, [], [17]), (101, [], [x2, 0, 0, 0, 0, 0]), (4, [(4, 24), (1, 1)], [])]) (jA_10_545 (d := 0) (by omega)) (by rfl) (by rfl) (by decide +kernel) (by rfl) (by rfl) (by omega) (by omega) (by omega) (by omega) rfl rfl ?_
  refine jT_xastore (v := (4, 25)) (LN := [(7, (4, 25)), (6, (0, 0)), (5, (0, 1)), (4, (4, 19)), (0, (4, 0)), (1, (0, 1)), (2, (0, x2)), (3, (0, x3))]) (pcN := 74) jI_132_72 rfl rfl rfl rfl ?_
  refine jT_xaload_n (v := (4, 0)) (pcN := 75) jI_132_74 rfl rfl rfl ?_
  refine jT_xaload (v := (4, 25)) (pcN := 77) jI_132_75 rfl rfl rfl ?_
  refine jT_callA [0, 25, 24] (y := 117) (pcN := 80) (dC := 2) (bc1 := 0) (bc2 := 0) (c1 := 2) (c2 := 13) (as := [(4, 0), (4, 25)]) (asC := [(4, 0), (4, 1)]) (LN := [(7, (4, 25)), (6, (0, 0)), (5, (0, 1)), (4, (4, 19)), (0, (4, 0)), (1, (0, 1)), (2, (0, x2)), (3, (0, x3))]) (stN := []) (hsC := [jgh, (4, [(4, 2), (1, 1)], []), (101, [], [x2, 0, 0, 0, 0, 0])]) (ex := []) (v := (9, 0)) (st2 := []) (hs2 := [jzA_5, jgh, jgh, jgh, jgh, jgh, jgh, jgh, jgh, jgh, jzA_79, jzA_88, jzA_89, (117, [], [18, 19, 20, 21]), jgh, jgh, jgh, (4, [(4, 22), (1, 1)], []), jgh, (7, [(4, 23), (4, (-1)), (4, (-1))], []), jgh, jgh, (101, [], [0, 0, 0, 0, 0, 0]), (114, [], [17]), (101, [], [x2, 0, 0, 0, 0, 0]), (4, [(4, 24), (1, 1)], [])]) (jA_117_548 (d := 0) (by omega)) (by rfl) (by rfl) (by rfl) (by rfl) ⟨rfl, rfl, rfl, trivial⟩ (by rfl) (by rfl) (by omega) (by show 24 ≤ 26; omega) (by omega) (by omega) rfl rfl ?_
  refine jT_xaload_n (v := (4, 0)) (pcN := 81) jI_132_80 rfl rfl rfl ?_
  refine jT_xaload_n (v := (4, 0)) (pcN := 82) jI_132_81 rfl rfl rfl ?_
  refine jT_xgetf (a := 0) (t := 1) (ci := 13) (fi := 11) (c := jzA_5) (v := (4, 11)) (pcN := 85) jI_132_82 rfl rfl rfl rfl rfl rfl rfl ?_
  refine jT_xiload_n (v := (0, x3)) (pcN := 86) jI_132_85 rfl rfl rfl ?_
  refine jT_xaload (v := (4, 25)) (pcN := 88) jI_132_86 rfl rfl rfl ?_
  refine jT_callA [11, 25, 12, 13, 14, 15, 16, 24, 17] (y := 58) (pcN := 91) (dC := 1) (bc1 := 2) (bc2 := 13) (c1 := 0) (c2 := 0) (as := [(4, 11), (0, x3), (4, 25)]) (asC := [(4, 0), (0, x3), (4, 1)]) (LN := [(7, (4, 25)), (6, (0, 0)), (5, (0, 1)), (4, (4, 19)), (0, (4, 0)), (1, (0, 1)), (2, (0, x2)), (3, (0, x3))]) (stN := [(4, 0)]) (hsC := jpA_74) (ex := [jgh, jzA_72]) (v := (4, 10)) (st2 := [(4, 27), (4, 0)]) (hs2 := [jzA_5, jgh, jgh, jgh, jgh, jgh, jgh, jgh, jgh, jgh, jzA_79, jzA_88, jzA_89, (117, [], [18, 19, 20, 21]), jgh, jgh, jgh, (4, [(4, 22), (1, 1)], []), jgh, (7, [(4, 23), (4, (-1)), (4, (-1))], []), jgh, jgh, (101, [], [0, 0, 0, 0, 0, 0]), (114, [], [17]), (101, [], [x2, 0, 0, 0, 0, 0]), (4, [(4, 24), (1, 1)], []), jgh, jzA_2216]) (jA_58_181 (d := 0) (by omega)) (by rfl) (by rfl) (by rfl) (by rfl) ⟨rfl, rfl, rfl, rfl, rfl, rfl, rfl, rfl, rfl, trivial⟩ (by rfl) (by rfl) (by omega) (by show 24 ≤ 26; omega) (by omega) (by omega) rfl rfl ?_
  refine jT_callB [0, 27, 1, 2, 3, 4, 5, 6, 7, 8, 9, 10, 11, 12, 13, 14, 15, 16] (y := 100) (pcN := 94) (dC := 0) (bc1 := 0) (bc2 := 0) (c1 := 0) (c2 := 0) (as := [(4, 0), (4, 27)]) (asC := [(4, 0), (4, 1)]) (LN := [(7, (4, 25)), (6, (0, 0)), (5, (0, 1)), (4, (4, 19)), (0, (4, 0)), (1, (0, 1)), (2, (0, x2)), (3, (0, x3))]) (stN := []) (hsC := jpA_80) (hsD := jpA_78) (v := (9, 0)) (st2 := []) (hs2 := [jzA_2217, jgh, jgh, jgh, jgh, jgh, jgh, jgh, jgh, jgh, jzA_102, jzA_88, jzA_89, (117, [], [18, 19, 20, 21]), jgh, jgh, jgh, (4, [(4, 22), (1, 1)], []), jgh, (7, [(4, 23), (4, (-1)), (4, (-1))], []), jgh, jgh, (101, [], [0, 0, 0, 0, 0, 0]), (114, [], [17]), (101, [], [x2, 0, 0, 0, 0, 0]), (4, [(4, 24), (1, 1)], []), jgh, jzA_2216]) (jA_100_34 (d := 0)) (by rfl) (by rfl) (by rfl) (by rfl) ⟨rfl, rfl, rfl, rfl, rfl, rfl, rfl, rfl, rfl, rfl, rfl, rfl, rfl, rfl, rfl, rfl, rfl, rfl, trivial⟩ (by rfl) (by rfl) (by omega) (by show 24 ≤ 28; omega) (by omega) (by omega) rfl rfl ?_
  refine jT_xiload (v := (0, 0)) (pcN := 96) jI_132_94 rfl rfl rfl ?_
  exact jT_ret rfl (by decide) (by show 24 ≤ 28; decide) (by omega) (by omega) ⟨rfl, rfl, rfl⟩
def jpA_2284 : List JC := [jzA_14, (101, [], [0]), jgh, jgh, jgh, jgh, jgh, jgh, jgh, jgh, jgh, jzA_79, jzA_77, jzA_109, (117, [], [19, 20, 21, 22]), jgh, jgh, jgh, (4, [(4, 23), (1, 1)], []), jgh, (7, [(4, 24), (4, (-1)), (4, (-1))], []), jgh, jgh, (101, [], [0, 0, 0, 0, 0, 0]), (114, [], [18])]
theorem jA_339_580 {xs : List Int} {d : Nat} {x2 x3 : Int} (h_x2 : (-200) ≤ x2 ∧ x2 ≤ (-1)) (h_x3 : 0 ≤ x3 ∧ x3 ≤ 7) : jT xs (d + 4) 339 25 0 [(0, (4, 0)), (1, (0, 1)), (2, (0, x2)), (3, (0, x3)), (4, (4, 1))] [] jpA_2284 4 21 (fun k v hsN => k = 0 ∧ v = (0, 0) ∧ hsN = [jzA_2220, (101, [], [0]), jgh, jgh, jgh, jgh, jgh, jgh, jgh, jgh, jgh, jzA_76, jzA_77, jzA_109, (117, [], [19, 20, 21, 22]), jgh, jgh, jgh, (4, [(4, 23), (1, 1)], []), jgh, (7, [(4, 24), (4, (-1)), (4, (-1))], []), jgh, jgh, (101, [], [0, 0, 0, 0, 0, 0]), (114, [], [18]), (101, [], [x2, 0, 0, 0, 0, 0]), (4, [(4, 25), (1, 1)], []), jgh, jzA_2221]) := by
  refine jT_xaload (v := (4, 1)) (pcN := 2) jI_339_0 rfl rfl rfl ?_
  refine jT_xiconst (k := 0) (pcN := 3) jI_339_2 rfl ?_
  refine jT_xaload_n (v := (4, 0)) (pcN := 4) jI_339_3 rfl rfl rfl ?_
  refine jT_xiload_n (v := (0, 1)) (pcN := 5) jI_339_4 rfl rfl rfl ?_
  refine jT_xiload_n (v := (0, x2)) (pcN := 6) jI_339_5 rfl rfl rfl ?_
  refine jT_xiload_n (v := (0, x3)) (pcN := 7) jI_339_6 rfl rfl rfl ?_
  refine jT_fB [0, 2, 3, 4, 5, 6, 7, 8, 9, 10, 11, 12, 13, 14, 15, 16, 17, 18, 19, 20, 21, 22, 23, 24] 25 (y := 132) (pcN := 10) (dC := 3) (bc1 := 4) (bc2 := 21) (c1 := 0) (c2 := 0) (as := [(4, 0), (0, 1), (0, x2), (0, x3)]) (asC := [(4, 0), (0, 1), (0, x2), (0, x3)]) (LN := [(0, (4, 0)), (1, (0, 1)), (2, (0, x2)), (3, (0, x3)), (4, (4, 1))]) (stN := [(0, 0), (4, 1)]) (hsC := jpA_2283) (hsD := [jzA_2217, jgh, jgh, jgh, jgh, jgh, jgh, jgh, jgh, jgh, jzA_102, jzA_88, jzA_89, (117, [], [18, 19, 20, 21]), jgh, jgh, jgh, (4, [(4, 22), (1, 1)], []), jgh, (7, [(4, 23), (4, (-1)), (4, (-1))], []), jgh, jgh, (101, [], [0, 0, 0, 0, 0, 0]), (114, [], [17]), (101, [], [x2, 0, 0, 0, 0, 0]), (4, [(4, 24), (1, 1)], []), jgh, jzA_2216]) (v := (0, 0)) (st2 := [(0, 0), (0, 0), (4, 1)]) (hs2 := [jzA_2220, (101, [], [0]), jgh, jgh, jgh, jgh, jgh, jgh, jgh, jgh, jgh, jzA_76, jzA_77, jzA_109, (117, [], [19, 20, 21, 22]), jgh, jgh, jgh, (4, [(4, 23), (1, 1)], []), jgh, (7, [(4, 24), (4, (-1)), (4, (-1))], []), jgh, jgh, (101, [], [0, 0, 0, 0, 0, 0]), (114, [], [18]), (101, [], [x2, 0, 0, 0, 0, 0]), (4, [(4, 25), (1, 1)], []), jgh, jzA_2221]) (jA_132_579 (d := 0) (by omega) (by omega)) (by rfl) (by rfl) (by decide +kernel) (by rfl) (by rfl) (by omega) (by omega) (by omega) (by omega) rfl rfl ?_
  refine jT_xi2l (x := 0) (z := 0) (pcN := 11) jI_339_10 rfl (by decide +kernel) rfl ?_
  refine jT_adv 1 (pcN := 12) (LN := [(0, (4, 0)), (1, (0, 1)), (2, (0, x2)), (3, (0, x3)), (4, (4, 1))]) (stN := []) (hsN := [jzA_2220, (101, [], [0]), jgh, jgh, jgh, jgh, jgh, jgh, jgh, jgh, jgh, jzA_76, jzA_77, jzA_109, (117, [], [19, 20, 21, 22]), jgh, jgh, jgh, (4, [(4, 23), (1, 1)], []), jgh, (7, [(4, 24), (4, (-1)), (4, (-1))], []), jgh, jgh, (101, [], [0, 0, 0, 0, 0, 0]), (114, [], [18]), (101, [], [x2, 0, 0, 0, 0, 0]), (4, [(4, 25), (1, 1)], []), jgh, jzA_2221]) (c1 := 0) (s1 := 0) (c2 := 0) (s2 := 0) (by exact rfl) ?_ (by omega) (by omega)
  refine jT_xgoto (pcN := 27) jI_339_12 rfl ?_
  refine jT_xiconst (k := 0) (pcN := 28) jI_339_27 rfl ?_
  exact jT_ret rfl (by decide) (by show 25 ≤ 29; decide) (by omega) (by omega) ⟨rfl, rfl, rfl⟩
theorem jA_252_581 {xs : List Int} {d : Nat} {x2 x3 : Int} (h_x2 : (-200) ≤ x2 ∧ x2 ≤ (-1)) (h_x3 : 0 ≤ x3 ∧ x3 ≤ 7) : jT xs (d + 2) 252 24 0 [(0, (4, 0)), (1, (0, 1)), (2, (0, x2)), (3, (0, x3))] [] jpA_248 0 0 (fun k v hsN => k = 0 ∧ v = (0, 0) ∧ hsN = [jzA_200, (100, [], ((((((((((((((jS0).set ((7 * x3).toNat) x2)).set ((7 * x3 + 1).toNat) 0)).set ((7 * x3 + 2).toNat) 0)).set ((7 * x3 + 3).toNat) 0)).set ((7 * x3 + 4).toNat) 0)).set ((7 * x3 + 5).toNat) 0)).set ((7 * x3 + 6).toNat) 1)), (100, [], []), jzA_196, jzA_201, jgh, jgh, (101, [], [x2, 0, 0, 0, 0, 0]), jgh, jgh, jgh, jgh, jgh, jgh, jgh, jgh, (100, [], jS0), jgh, jgh, jgh, jgh, jgh, jgh, jgh]) := by
  refine jT_xaload_n (v := (4, 0)) (pcN := 1) jI_252_0 rfl rfl rfl ?_
  refine jT_xiload_n (v := (0, 1)) (pcN := 2) jI_252_1 rfl rfl rfl ?_
  refine jT_fR [] 24 (y := 238) (pcN := 5) (dC := 1) (bc1 := 0) (bc2 := 0) (c1 := 0) (c2 := 0) (as := [(0, 1)]) (asC := [(0, 1)]) (LN := [(0, (4, 0)), (1, (0, 1)), (2, (0, x2)), (3, (0, x3))]) (stN := [(4, 0)]) (hsC := []) (v := (0, 1)) (st2 := [(0, 1), (4, 0)]) (jA_238_362 (d := 0)) (by rfl) (by rfl) (by decide +kernel) (by rfl) (by rfl) (by omega) (by omega) (by omega) (by omega) rfl ?_
  refine jT_xifF (t := 19) (pcN := 8) jI_252_5 rfl (by decide +kernel) rfl rfl ?_
  refine jT_xiload_n (v := (0, x3)) (pcN := 9) jI_252_8 rfl rfl rfl ?_
  refine jT_fR [] 24 (y := 188) (pcN := 12) (dC := 1) (bc1 := 0) (bc2 := 0) (c1 := 0) (c2 := 0) (as := [(0, x3)]) (asC := [(0, x3)]) (LN := [(0, (4, 0)), (1, (0, 1)), (2, (0, x2)), (3, (0, x3))]) (stN := [(4, 0)]) (hsC := []) (v := (0, 1)) (st2 := [(0, 1), (4, 0)]) (jA_188_37 (d := 0) (by omega)) (by rfl) (by rfl) (by decide +kernel) (by rfl) (by rfl) (by omega) (by omega) (by omega) (by omega) rfl ?_
  refine jT_xifF (t := 19) (pcN := 15) jI_252_12 rfl (by decide +kernel) rfl rfl ?_
  refine jT_xiconst (k := 1) (pcN := 16) jI_252_15 rfl ?_
  refine jT_xgoto (pcN := 20) jI_252_16 rfl ?_
  refine jT_fR [0, 1, 2, 3, 4, 5, 6, 7, 8, 9, 10, 11, 12, 13, 14, 15] 24 (y := 190) (pcN := 23) (dC := 1) (bc1 := 0) (bc2 := 0) (c1 := 0) (c2 := 0) (as := [(4, 0), (0, 1)]) (asC := [(4, 0), (0, 1)]) (LN := [(0, (4, 0)), (1, (0, 1)), (2, (0, x2)), (3, (0, x3))]) (stN := []) (hsC := jpA_22) (v := (0, 0)) (st2 := [(0, 0)]) (jA_190_39 (d := 0)) (by rfl) (by rfl) (by decide +kernel) (by rfl) (by rfl) (by omega) (by omega) (by omega) (by omega) rfl ?_
  refine jT_xifF (t := 45) (pcN := 26) jI_252_23 rfl (by decide +kernel) rfl rfl ?_
  refine jT_xaload_n (v := (4, 0)) (pcN := 27) jI_252_26 rfl rfl rfl ?_
  refine jT_xiload_n (v := (0, x2)) (pcN := 28) jI_252_27 rfl rfl rfl ?_
  refine jT_xi2l (x := x2) (z := x2) (pcN := 29) jI_252_28 rfl (jw_idd (by omega) (by omega)) rfl ?_
  refine jT_adv 2 (pcN := 35) (LN := [(0, (4, 0)), (1, (0, 1)), (2, (0, x2)), (3, (0, x3))]) (stN := [(1, 200), (1, (-200)), (1, x2), (4, 0)]) (hsN := jpA_248) (c1 := 0) (s1 := 0) (c2 := 0) (s2 := 0) (by exact rfl) ?_ (by omega) (by omega)
  refine jT_fR [] 24 (y := 189) (pcN := 38) (dC := 0) (bc1 := 0) (bc2 := 0) (c1 := 0) (c2 := 0) (as := [(1, x2), (1, (-200)), (1, 200)]) (asC := [(1, x2), (1, (-200)), (1, 200)]) (LN := [(0, (4, 0)), (1, (0, 1)), (2, (0, x2)), (3, (0, x3))]) (stN := [(4, 0)]) (hsC := []) (v := (0, 1)) (st2 := [(0, 1), (4, 0)]) (jT_in_ok (d := 0) (v := x2) (lo := (-200)) (hi := 200) (by omega) (by omega) (by omega) (by omega) (by omega)) (by rfl) (by rfl) (by decide +kernel) (by rfl) (by rfl) (by omega) (by omega) (by omega) (by omega) rfl ?_
  refine jT_xiconst (k := 2) (pcN := 39) jI_252_38 rfl ?_
  refine jT_fR [0] 24 (y := 191) (pcN := 42) (dC := 0) (bc1 := 0) (bc2 := 0) (c1 := 0) (c2 := 0) (as := [(4, 0), (0, 1), (0, 2)]) (asC := [(4, 0), (0, 1), (0, 2)]) (LN := [(0, (4, 0)), (1, (0, 1)), (2, (0, x2)), (3, (0, x3))]) (stN := []) (hsC := [jgh]) (v := (0, 0)) (st2 := [(0, 0)]) (jA_191_49 (d := 0)) (by rfl) (by rfl) (by decide +kernel) (by rfl) (by rfl) (by omega) (by omega) (by omega) (by omega) rfl ?_
  refine jT_xifT (pcN := 47) jI_252_42 rfl (by decide +kernel) rfl ?_
  refine jT_xiload_n (v := (0, x2)) (pcN := 48) jI_252_47 rfl rfl rfl ?_
  refine jT_xaload_n (v := (4, 0)) (pcN := 49) jI_252_48 rfl rfl rfl ?_
  refine jT_xiload_n (v := (0, 1)) (pcN := 50) jI_252_49 rfl rfl rfl ?_
  refine jT_fR [0, 1, 2, 3, 4, 5, 6, 7, 8, 9, 10, 11, 12, 13, 14, 15] 24 (y := 245) (pcN := 53) (dC := 0) (bc1 := 0) (bc2 := 0) (c1 := 0) (c2 := 0) (as := [(4, 0), (0, 1)]) (asC := [(4, 0), (0, 1)]) (LN := [(0, (4, 0)), (1, (0, 1)), (2, (0, x2)), (3, (0, x3))]) (stN := [(0, x2)]) (hsC := jpA_1519) (v := (0, 1)) (st2 := [(0, 1), (0, x2)]) (jA_245_363 (d := 0)) (by rfl) (by rfl) (by decide +kernel) (by rfl) (by rfl) (by omega) (by omega) (by omega) (by omega) rfl ?_
  refine jT_fR [] 24 (y := 375) (pcN := 56) (dC := 0) (bc1 := 0) (bc2 := 0) (c1 := 0) (c2 := 0) (as := [(0, x2), (0, 1)]) (asC := [(0, x2), (0, 1)]) (LN := [(0, (4, 0)), (1, (0, 1)), (2, (0, x2)), (3, (0, x3))]) (stN := []) (hsC := []) (v := (0, x2 % 1)) (st2 := [(0, x2 % 1)]) (jT_fmI1 (d := 0) (x := x2) (by omega)) (by rfl) (by rfl) (by decide +kernel) (by rfl) (by rfl) (by omega) (by omega) (by omega) (by omega) rfl ?_
  refine jT_eq (LN := [(0, (4, 0)), (1, (0, 1)), (2, (0, x2)), (3, (0, x3))]) (stN := [(0, 0)]) (hsN := [jzA_21, (100, [], jS0), (100, [], []), jzA_196, jzA_197, jgh, jgh, (101, [], [0, 0, 0, 0, 0, 0]), jgh, jgh, jgh, jgh, jgh, jgh, jgh, jgh, (100, [], (List.replicate 1613 0)), jgh, jgh, jgh, jgh, jgh, jgh, jgh]) (rfl) (by simp only [List.cons.injEq, Prod.mk.injEq, and_true, true_and] <;> ((try unfold jw); (try unfold jwl); omega)) (rfl) ?_
  refine jT_xistore (v := (0, 0)) (LN := [(4, (0, 0)), (0, (4, 0)), (1, (0, 1)), (2, (0, x2)), (3, (0, x3))]) (pcN := 58) jI_252_56 rfl rfl rfl rfl ?_
  refine jT_xaload_n (v := (4, 0)) (pcN := 59) jI_252_58 rfl rfl rfl ?_
  refine jT_xaload_n (v := (4, 0)) (pcN := 60) jI_252_59 rfl rfl rfl ?_
  refine jT_xgetf (a := 0) (t := 1) (ci := 14) (fi := 1) (c := jzA_21) (v := (4, 1)) (pcN := 63) jI_252_60 rfl rfl rfl rfl rfl rfl rfl ?_
  refine jT_xiload_n (v := (0, 1)) (pcN := 64) jI_252_63 rfl rfl rfl ?_
  refine jT_xiload (v := (0, 0)) (pcN := 66) jI_252_64 rfl rfl rfl ?_
  refine jT_fR [] 24 (y := 242) (pcN := 69) (dC := 0) (bc1 := 0) (bc2 := 0) (c1 := 0) (c2 := 0) (as := [(0, 1), (0, 0)]) (asC := [(0, 1), (0, 0)]) (LN := [(4, (0, 0)), (0, (4, 0)), (1, (0, 1)), (2, (0, x2)), (3, (0, x3))]) (stN := [(4, 1), (4, 0)]) (hsC := []) (v := (0, 338)) (st2 := [(0, 338), (4, 1), (4, 0)]) (jA_242_364 (d := 0)) (by rfl) (by rfl) (by decide +kernel) (by rfl) (by rfl) (by omega) (by omega) (by omega) (by omega) rfl ?_
  refine jT_fR [0, 1, 2, 3, 4, 5, 6, 7, 8, 9, 10, 11, 12, 13, 14, 15] 24 (y := 203) (pcN := 72) (dC := 0) (bc1 := 0) (bc2 := 0) (c1 := 0) (c2 := 0) (as := [(4, 0), (4, 1), (0, 338)]) (asC := [(4, 0), (4, 1), (0, 338)]) (LN := [(4, (0, 0)), (0, (4, 0)), (1, (0, 1)), (2, (0, x2)), (3, (0, x3))]) (stN := []) (hsC := jpA_130) (v := (9, 0)) (st2 := []) (jA_203_367 (d := 0)) (by rfl) (by rfl) (by decide +kernel) (by rfl) (by rfl) (by omega) (by omega) (by omega) (by omega) rfl ?_
  refine jT_xaload_n (v := (4, 0)) (pcN := 73) jI_252_72 rfl rfl rfl ?_
  refine jT_xgetf (a := 0) (t := 1) (ci := 14) (fi := 9) (c := jzA_21) (v := (4, 7)) (pcN := 76) jI_252_73 rfl rfl rfl rfl rfl rfl rfl ?_
  refine jT_xiconst (k := 0) (pcN := 77) jI_252_76 rfl ?_
  refine jT_adv 1 (pcN := 78) (LN := [(4, (0, 0)), (0, (4, 0)), (1, (0, 1)), (2, (0, x2)), (3, (0, x3))]) (stN := [(0, 0), (4, 7), (0, 0), (4, 7)]) (hsN := jpA_248) (c1 := 0) (s1 := 0) (c2 := 0) (s2 := 0) (by exact rfl) ?_ (by omega) (by omega)
  refine jT_lald (x := 0) (a := 7) (j := 0) (fs := []) (X := [0, 0, 0, 0, 0, 0]) jI_252_78 rfl rfl rfl rfl ?_
  refine jT_eq (LN := [(4, (0, 0)), (0, (4, 0)), (1, (0, 1)), (2, (0, x2)), (3, (0, x3))]) (stN := [(1, 0), (0, 0), (4, 7)]) (hsN := jpA_248) rfl rfl rfl ?_
  refine jT_xaload_n (v := (4, 0)) (pcN := 80) jI_252_79 rfl rfl rfl ?_
  refine jT_xgetf (a := 0) (t := 1) (ci := 14) (fi := 10) (c := jzA_21) (v := (1, 1)) (pcN := 83) jI_252_80 rfl rfl rfl rfl rfl rfl rfl ?_
  refine jT_xiload_n (v := (0, x2)) (pcN := 84) jI_252_83 rfl rfl rfl ?_
  refine jT_xaload_n (v := (4, 0)) (pcN := 85) jI_252_84 rfl rfl rfl ?_
  refine jT_xiload_n (v := (0, 1)) (pcN := 86) jI_252_85 rfl rfl rfl ?_
  refine jT_fR [0, 1, 2, 3, 4, 5, 6, 7, 8, 9, 10, 11, 12, 13, 14, 15] 24 (y := 245) (pcN := 89) (dC := 0) (bc1 := 0) (bc2 := 0) (c1 := 0) (c2 := 0) (as := [(4, 0), (0, 1)]) (asC := [(4, 0), (0, 1)]) (LN := [(4, (0, 0)), (0, (4, 0)), (1, (0, 1)), (2, (0, x2)), (3, (0, x3))]) (stN := [(0, x2), (1, 1), (1, 0), (0, 0), (4, 7)]) (hsC := jpA_1519) (v := (0, 1)) (st2 := [(0, 1), (0, x2), (1, 1), (1, 0), (0, 0), (4, 7)]) (jA_245_363 (d := 0)) (by rfl) (by rfl) (by decide +kernel) (by rfl) (by rfl) (by omega) (by omega) (by omega) (by omega) rfl ?_
  refine jT_fR [] 24 (y := 376) (pcN := 92) (dC := 0) (bc1 := 0) (bc2 := 0) (c1 := 0) (c2 := 0) (as := [(0, x2), (0, 1)]) (asC := [(0, x2), (0, 1)]) (LN := [(4, (0, 0)), (0, (4, 0)), (1, (0, 1)), (2, (0, x2)), (3, (0, x3))]) (stN := [(1, 1), (1, 0), (0, 0), (4, 7)]) (hsC := []) (v := (0, x2 / 1)) (st2 := [(0, x2 / 1), (1, 1), (1, 0), (0, 0), (4, 7)]) (jT_fdI1 (d := 0) (x := x2) (by omega)) (by rfl) (by rfl) (by decide +kernel) (by rfl) (by rfl) (by omega) (by omega) (by omega) (by omega) rfl ?_
  refine jT_eq (LN := [(4, (0, 0)), (0, (4, 0)), (1, (0, 1)), (2, (0, x2)), (3, (0, x3))]) (stN := [(0, x2), (1, 1), (1, 0), (0, 0), (4, 7)]) (hsN := [jzA_21, (100, [], jS0), (100, [], []), jzA_196, jzA_197, jgh, jgh, (101, [], [0, 0, 0, 0, 0, 0]), jgh, jgh, jgh, jgh, jgh, jgh, jgh, jgh, (100, [], (List.replicate 1613 0)), jgh, jgh, jgh, jgh, jgh, jgh, jgh]) (rfl) (by simp only [List.cons.injEq, Prod.mk.injEq, and_true, true_and] <;> ((try unfold jw); (try unfold jwl); omega)) (rfl) ?_
  refine jT_xi2l (x := x2) (z := x2) (pcN := 93) jI_252_92 rfl (jw_idd (by omega) (by omega)) rfl ?_
  refine jT_xlmul (x := 1) (y := x2) (z := x2) (pcN := 94) jI_252_93 rfl (by omega) rfl ?_
  refine jT_xladd (x := 0) (y := x2) (z := x2) (pcN := 95) jI_252_94 rfl (by omega) rfl ?_
  refine jT_adv 1 (pcN := 96) (LN := [(4, (0, 0)), (0, (4, 0)), (1, (0, 1)), (2, (0, x2)), (3, (0, x3))]) (stN := []) (hsN := [jzA_21, (100, [], jS0), (100, [], []), jzA_196, jzA_197, jgh, jgh, (101, [], [x2, 0, 0, 0, 0, 0]), jgh, jgh, jgh, jgh, jgh, jgh, jgh, jgh, (100, [], (List.replicate 1613 0)), jgh, jgh, jgh, jgh, jgh, jgh, jgh]) (c1 := 0) (s1 := 0) (c2 := 0) (s2 := 0) (by exact rfl) ?_ (by omega) (by omega)
  refine jT_xaload_n (v := (4, 0)) (pcN := 97) jI_252_96 rfl rfl rfl ?_
  refine jT_xaload_n (v := (4, 0)) (pcN := 98) jI_252_97 rfl rfl rfl ?_
  refine jT_callA [0, 1, 2, 3, 4, 5, 6, 7, 8, 9, 10, 11, 12, 13, 14, 15] (y := 205) (pcN := 101) (dC := 1) (bc1 := 0) (bc2 := 0) (c1 := 0) (c2 := 0) (as := [(4, 0)]) (asC := [(4, 0)]) (LN := [(4, (0, 0)), (0, (4, 0)), (1, (0, 1)), (2, (0, x2)), (3, (0, x3))]) (stN := [(4, 0)]) (hsC := [jzA_21, jgh, jgh, jgh, jgh, jgh, jgh, (101, [], [x2, 0, 0, 0, 0, 0]), jgh, jgh, jgh, jgh, jgh, jgh, jgh, jgh]) (ex := []) (v := (0, 1)) (st2 := [(0, 1), (4, 0)]) (hs2 := [jzA_21, (100, [], jS0), (100, [], []), jzA_196, jzA_197, jgh, jgh, (101, [], [x2, 0, 0, 0, 0, 0]), jgh, jgh, jgh, jgh, jgh, jgh, jgh, jgh, (100, [], (List.replicate 1613 0)), jgh, jgh, jgh, jgh, jgh, jgh, jgh]) (jA_205_551 (d := 0) (by omega)) (by rfl) (by rfl) (by rfl) (by rfl) ⟨rfl, rfl, rfl, rfl, rfl, rfl, rfl, rfl, rfl, rfl, rfl, rfl, rfl, rfl, rfl, rfl, trivial⟩ (by rfl) (by rfl) (by omega) (by show 24 ≤ 24; omega) (by omega) (by omega) rfl rfl ?_
  refine jT_xiconst (k := 3) (pcN := 102) jI_252_101 rfl ?_
  refine jT_callA [0] (y := 191) (pcN := 105) (dC := 0) (bc1 := 0) (bc2 := 0) (c1 := 0) (c2 := 0) (as := [(4, 0), (0, 1), (0, 3)]) (asC := [(4, 0), (0, 1), (0, 3)]) (LN := [(4, (0, 0)), (0, (4, 0)), (1, (0, 1)), (2, (0, x2)), (3, (0, x3))]) (stN := []) (hsC := [jgh]) (ex := []) (v := (0, 0)) (st2 := [(0, 0)]) (hs2 := [jzA_21, (100, [], jS0), (100, [], []), jzA_196, jzA_197, jgh, jgh, (101, [], [x2, 0, 0, 0, 0, 0]), jgh, jgh, jgh, jgh, jgh, jgh, jgh, jgh, (100, [], (List.replicate 1613 0)), jgh, jgh, jgh, jgh, jgh, jgh, jgh]) (jA_191_117 (d := 0)) (by rfl) (by rfl) (by rfl) (by rfl) ⟨rfl, trivial⟩ (by rfl) (by rfl) (by omega) (by show 24 ≤ 24; omega) (by omega) (by omega) rfl rfl ?_
  refine jT_xifT (pcN := 110) jI_252_105 rfl (by decide +kernel) rfl ?_
  refine jT_xaload_n (v := (4, 0)) (pcN := 111) jI_252_110 rfl rfl rfl ?_
  refine jT_callB [0, 1, 2, 3, 4, 5, 6, 7, 8, 9, 10, 11, 12, 13, 14, 15, 16, 17, 18, 19, 20, 21, 22, 23] (y := 195) (pcN := 114) (dC := 0) (bc1 := 0) (bc2 := 0) (c1 := 0) (c2 := 0) (as := [(4, 0)]) (asC := [(4, 0)]) (LN := [(4, (0, 0)), (0, (4, 0)), (1, (0, 1)), (2, (0, x2)), (3, (0, x3))]) (stN := []) (hsC := jpA_198) (hsD := jpA_202) (v := (9, 0)) (st2 := []) (hs2 := [jzA_200, (100, [], jS0), (100, [], []), jzA_196, jzA_201, jgh, jgh, (101, [], [x2, 0, 0, 0, 0, 0]), jgh, jgh, jgh, jgh, jgh, jgh, jgh, jgh, (100, [], jS0), jgh, jgh, jgh, jgh, jgh, jgh, jgh]) (jA_195_50 (d := 0)) (by rfl) (by rfl) (by rfl) (by rfl) ⟨rfl, rfl, rfl, rfl, rfl, rfl, rfl, rfl, rfl, rfl, rfl, rfl, rfl, rfl, rfl, rfl, rfl, rfl, rfl, rfl, rfl, rfl, rfl, rfl, trivial⟩ (by rfl) (by rfl) (by omega) (by show 24 ≤ 24; omega) (by omega) (by omega) rfl rfl ?_
  refine jT_xaload_n (v := (4, 0)) (pcN := 115) jI_252_114 rfl rfl rfl ?_
  refine jT_xiload_n (v := (0, x3)) (pcN := 116) jI_252_115 rfl rfl rfl ?_
  refine jT_callB [0, 1, 2, 3, 4, 5, 6, 7, 8, 9, 10, 11, 12, 13, 14, 15] (y := 196) (pcN := 119) (dC := 1) (bc1 := 0) (bc2 := 0) (c1 := 0) (c2 := 0) (as := [(4, 0), (0, x3)]) (asC := [(4, 0), (0, x3)]) (LN := [(4, (0, 0)), (0, (4, 0)), (1, (0, 1)), (2, (0, x2)), (3, (0, x3))]) (stN := []) (hsC := [jzA_200, (100, [], jS0), jgh, jgh, jgh, jgh, jgh, (101, [], [x2, 0, 0, 0, 0, 0]), jgh, jgh, jgh, jgh, jgh, jgh, jgh, jgh]) (hsD := [jzA_200, (100, [], ((((((((((((((jS0).set ((7 * x3).toNat) x2)).set ((7 * x3 + 1).toNat) 0)).set ((7 * x3 + 2).toNat) 0)).set ((7 * x3 + 3).toNat) 0)).set ((7 * x3 + 4).toNat) 0)).set ((7 * x3 + 5).toNat) 0)).set ((7 * x3 + 6).toNat) 1)), jgh, jgh, jgh, jgh, jgh, (101, [], [x2, 0, 0, 0, 0, 0]), jgh, jgh, jgh, jgh, jgh, jgh, jgh, jgh]) (v := (0, 1)) (st2 := [(0, 1)]) (hs2 := [jzA_200, (100, [], ((((((((((((((jS0).set ((7 * x3).toNat) x2)).set ((7 * x3 + 1).toNat) 0)).set ((7 * x3 + 2).toNat) 0)).set ((7 * x3 + 3).toNat) 0)).set ((7 * x3 + 4).toNat) 0)).set ((7 * x3 + 5).toNat) 0)).set ((7 * x3 + 6).toNat) 1)), (100, [], []), jzA_196, jzA_201, jgh, jgh, (101, [], [x2, 0, 0, 0, 0, 0]), jgh, jgh, jgh, jgh, jgh, jgh, jgh, jgh, (100, [], jS0), jgh, jgh, jgh, jgh, jgh, jgh, jgh]) (jA_196_553 (d := 0) (by omega) (by omega)) (by rfl) (by rfl) (by rfl) (by rfl) ⟨rfl, rfl, rfl, rfl, rfl, rfl, rfl, rfl, rfl, rfl, rfl, rfl, rfl, rfl, rfl, rfl, trivial⟩ (by rfl) (by rfl) (by omega) (by show 24 ≤ 24; omega) (by omega) (by omega) rfl rfl ?_
  refine jT_adv 1 (pcN := 120) (LN := [(4, (0, 0)), (0, (4, 0)), (1, (0, 1)), (2, (0, x2)), (3, (0, x3))]) (stN := []) (hsN := [jzA_200, (100, [], ((((((((((((((jS0).set ((7 * x3).toNat) x2)).set ((7 * x3 + 1).toNat) 0)).set ((7 * x3 + 2).toNat) 0)).set ((7 * x3 + 3).toNat) 0)).set ((7 * x3 + 4).toNat) 0)).set ((7 * x3 + 5).toNat) 0)).set ((7 * x3 + 6).toNat) 1)), (100, [], []), jzA_196, jzA_201, jgh, jgh, (101, [], [x2, 0, 0, 0, 0, 0]), jgh, jgh, jgh, jgh, jgh, jgh, jgh, jgh, (100, [], jS0), jgh, jgh, jgh, jgh, jgh, jgh, jgh]) (c1 := 0) (s1 := 0) (c2 := 0) (s2 := 0) (by exact rfl) ?_ (by omega) (by omega)
  refine jT_xiload (v := (0, 0)) (pcN := 122) jI_252_120 rfl rfl rfl ?_
  exact jT_ret rfl (by decide) (by show 24 ≤ 24; decide) (by omega) (by omega) ⟨rfl, rfl, rfl⟩
def jpA_2285 : List JC := [jzA_5, jgh, jgh, jgh, jgh, jgh, jgh, jgh, jgh, jgh, jzA_79, jzA_88, jzA_89, (117, [], [18, 19, 20, 21]), jgh, jgh, jgh, (4, [(4, 22), (1, 1)], []), jgh, (7, [(4, 23), (4, (-1)), (4, (-1))], []), jgh, jgh, (101, [], [0, 0, 0, 0, 0, 0]), (114, [], [17]), (101, [], [0, 0, 0, 0, 0, 0]), (4, [(4, 24), (1, 1)], [])]
def jpA_2286 : List JC := [jzA_5, jgh, jgh, jgh, jgh, jgh, jgh, jgh, jgh, jgh, jzA_79, jzA_88, jzA_89, (117, [], [18, 19, 20, 21]), jgh, jgh, jgh, (4, [(4, 22), (1, 1)], []), jgh, (7, [(4, 23), (4, (-1)), (4, (-1))], []), jgh, jgh, (101, [], [0, 0, 0, 0, 0, 0]), (114, [], [17]), (101, [], [0, 0, 0, 0, 0, 0]), (4, [(4, 24), (1, 1)], []), jgh, jzA_2216]
def jpA_2287 : List JC := [jzA_2217, jgh, jgh, jgh, jgh, jgh, jgh, jgh, jgh, jgh, jzA_102, jzA_88, jzA_89, (117, [], [18, 19, 20, 21]), jgh, jgh, jgh, (4, [(4, 22), (1, 1)], []), jgh, (7, [(4, 23), (4, (-1)), (4, (-1))], []), jgh, jgh, (101, [], [0, 0, 0, 0, 0, 0]), (114, [], [17]), (101, [], [0, 0, 0, 0, 0, 0]), (4, [(4, 24), (1, 1)], []), jgh, jzA_2216]
theorem jA_132_582 {xs : List Int} {d : Nat} {x3 : Int} (h_x3 : 0 ≤ x3 ∧ x3 ≤ 7) : jT xs (d + 3) 132 24 0 [(0, (4, 0)), (1, (0, 1)), (2, (0, 0)), (3, (0, x3))] [] jpA_2283 4 21 (fun k v hsN => k = 0 ∧ v = (0, 0) ∧ hsN = jpA_2287) := by
  refine jT_xaload_n (v := (4, 0)) (pcN := 1) jI_132_0 rfl rfl rfl ?_
  refine jT_xiload_n (v := (0, 1)) (pcN := 2) jI_132_1 rfl rfl rfl ?_
  refine jT_xiconst (k := 4) (pcN := 3) jI_132_2 rfl ?_
  refine jT_fR [0] 24 (y := 115) (pcN := 6) (dC := 0) (bc1 := 0) (bc2 := 0) (c1 := 4) (c2 := 21) (as := [(4, 0), (0, 1), (0, 4)]) (asC := [(4, 0), (0, 1), (0, 4)]) (LN := [(0, (4, 0)), (1, (0, 1)), (2, (0, 0)), (3, (0, x3))]) (stN := []) (hsC := [jgh]) (v := (9, 0)) (st2 := []) (jA_115_356 (d := 0)) (by rfl) (by rfl) (by decide +kernel) (by rfl) (by rfl) (by omega) (by omega) (by omega) (by omega) rfl ?_
  refine jT_xaload_n (v := (4, 0)) (pcN := 7) jI_132_6 rfl rfl rfl ?_
  refine jT_xiload_n (v := (0, x3)) (pcN := 8) jI_132_7 rfl rfl rfl ?_
  refine jT_xbipush (k := 8) (pcN := 10) jI_132_8 (by decide) rfl ?_
  refine jT_fR [0] 24 (y := 115) (pcN := 13) (dC := 0) (bc1 := 0) (bc2 := 0) (c1 := 4) (c2 := 21) (as := [(4, 0), (0, x3), (0, 8)]) (asC := [(4, 0), (0, x3), (0, 8)]) (LN := [(0, (4, 0)), (1, (0, 1)), (2, (0, 0)), (3, (0, x3))]) (stN := []) (hsC := [jgh]) (v := (9, 0)) (st2 := []) (jA_115_23 (d := 0) (by omega)) (by rfl) (by rfl) (by decide +kernel) (by rfl) (by rfl) (by omega) (by omega) (by omega) (by omega) rfl ?_
  refine jT_xaload_n (v := (4, 0)) (pcN := 14) jI_132_13 rfl rfl rfl ?_
  refine jT_xiload_n (v := (0, 0)) (pcN := 15) jI_132_14 rfl rfl rfl ?_
  refine jT_xsipush (k := (-200)) (pcN := 18) jI_132_15 (by decide) rfl ?_
  refine jT_xsipush (k := 200) (pcN := 21) jI_132_18 (by decide) rfl ?_
  refine jT_fR [0] 24 (y := 116) (pcN := 24) (dC := 0) (bc1 := 0) (bc2 := 0) (c1 := 4) (c2 := 21) (as := [(4, 0), (0, 0), (0, (-200)), (0, 200)]) (asC := [(4, 0), (0, 0), (0, (-200)), (0, 200)]) (LN := [(0, (4, 0)), (1, (0, 1)), (2, (0, 0)), (3, (0, x3))]) (stN := []) (hsC := [jgh]) (v := (9, 0)) (st2 := []) (jA_116_559 (d := 0)) (by rfl) (by rfl) (by decide +kernel) (by rfl) (by rfl) (by omega) (by omega) (by omega) (by omega) rfl ?_
  refine jT_xaload_n (v := (4, 0)) (pcN := 25) jI_132_24 rfl rfl rfl ?_
  refine jT_xgetf (a := 0) (t := 1) (ci := 13) (fi := 11) (c := jzA_5) (v := (4, 11)) (pcN := 28) jI_132_25 rfl rfl rfl rfl rfl rfl rfl ?_
  refine jT_xiload_n (v := (0, 1)) (pcN := 29) jI_132_28 rfl rfl rfl ?_
  refine jT_fR [11, 12, 13, 14, 15, 16, 18, 19, 20, 21] 24 (y := 56) (pcN := 32) (dC := 0) (bc1 := 0) (bc2 := 0) (c1 := 4) (c2 := 21) (as := [(4, 11), (0, 1)]) (asC := [(4, 0), (0, 1)]) (LN := [(0, (4, 0)), (1, (0, 1)), (2, (0, 0)), (3, (0, x3))]) (stN := []) (hsC := jpA_1446) (v := (4, 7)) (st2 := [(4, 19)]) (jA_56_357 (d := 0)) (by rfl) (by rfl) (by decide +kernel) (by rfl) (by rfl) (by omega) (by omega) (by omega) (by omega) rfl ?_
  refine jT_xastore (v := (4, 19)) (LN := [(4, (4, 19)), (0, (4, 0)), (1, (0, 1)), (2, (0, 0)), (3, (0, x3))]) (pcN := 34) jI_132_32 rfl rfl rfl rfl ?_
  refine jT_xiconst (k := 1) (pcN := 35) jI_132_34 rfl ?_
  refine jT_xaload (v := (4, 19)) (pcN := 37) jI_132_35 rfl rfl rfl ?_
  refine jT_fR [19, 23, 17] 24 (y := 29) (pcN := 40) (dC := 0) (bc1 := 0) (bc2 := 0) (c1 := 4) (c2 := 21) (as := [(4, 19)]) (asC := [(4, 0)]) (LN := [(4, (4, 19)), (0, (4, 0)), (1, (0, 1)), (2, (0, 0)), (3, (0, x3))]) (stN := [(0, 1)]) (hsC := [(7, [(4, 1), (4, (-1)), (4, (-1))], []), (114, [], [2]), jgh]) (v := (0, 1)) (st2 := [(0, 1), (0, 1)]) (jA_29_416 (d := 0)) (by rfl) (by rfl) (by decide +kernel) (by rfl) (by rfl) (by omega) (by omega) (by omega) (by omega) rfl ?_
  refine jT_mm0 (x := 1) (y := 1) (z := 1) (by rfl) (by rfl) (by rfl) (by rfl) (jw_idd (by omega) (by omega)) (jw_idd (by omega) (by omega)) (by rw [decide_eq_false (show ¬ ((1 : Int) < 1) by omega)]; rfl) ?_
  refine jT_xistore (v := (0, 1)) (LN := [(5, (0, 1)), (4, (4, 19)), (0, (4, 0)), (1, (0, 1)), (2, (0, 0)), (3, (0, x3))]) (pcN := 45) jI_132_43 rfl rfl rfl rfl ?_
  refine jT_xiload_n (v := (0, 0)) (pcN := 46) jI_132_45 rfl rfl rfl ?_
  refine jT_xiload (v := (0, 1)) (pcN := 48) jI_132_46 rfl rfl rfl ?_
  refine jT_fR [] 24 (y := 375) (pcN := 51) (dC := 0) (bc1 := 0) (bc2 := 0) (c1 := 4) (c2 := 21) (as := [(0, 0), (0, 1)]) (asC := [(0, 0), (0, 1)]) (LN := [(5, (0, 1)), (4, (4, 19)), (0, (4, 0)), (1, (0, 1)), (2, (0, 0)), (3, (0, x3))]) (stN := []) (hsC := []) (v := (0, 0)) (st2 := [(0, 0)]) (jA_375_560 (d := 0)) (by rfl) (by rfl) (by decide +kernel) (by rfl) (by rfl) (by omega) (by omega) (by omega) (by omega) rfl ?_
  refine jT_xistore (v := (0, 0)) (LN := [(6, (0, 0)), (5, (0, 1)), (4, (4, 19)), (0, (4, 0)), (1, (0, 1)), (2, (0, 0)), (3, (0, x3))]) (pcN := 53) jI_132_51 rfl rfl rfl rfl ?_
  refine jT_xaload (v := (4, 19)) (pcN := 55) jI_132_53 rfl rfl rfl ?_
  refine jT_xiload (v := (0, 0)) (pcN := 57) jI_132_55 rfl rfl rfl ?_
  refine jT_fR [19, 23, 17] 24 (y := 30) (pcN := 60) (dC := 0) (bc1 := 0) (bc2 := 0) (c1 := 4) (c2 := 21) (as := [(4, 19), (0, 0)]) (asC := [(4, 0), (0, 0)]) (LN := [(6, (0, 0)), (5, (0, 1)), (4, (4, 19)), (0, (4, 0)), (1, (0, 1)), (2, (0, 0)), (3, (0, x3))]) (stN := []) (hsC := [(7, [(4, 1), (4, (-1)), (4, (-1))], []), (114, [], [2]), jgh]) (v := (4, 2)) (st2 := [(4, 17)]) (jA_30_538 (d := 0)) (by rfl) (by rfl) (by decide +kernel) (by rfl) (by rfl) (by omega) (by omega) (by omega) (by omega) rfl ?_
  refine jT_xlconst (z := 1) (pcN := 61) jI_132_60 rfl rfl ?_
  refine jT_xlconst (z := 1) (pcN := 62) jI_132_61 rfl rfl ?_
  refine jT_xiload_n (v := (0, 0)) (pcN := 63) jI_132_62 rfl rfl rfl ?_
  refine jT_xiload (v := (0, 1)) (pcN := 65) jI_132_63 rfl rfl rfl ?_
  refine jT_fR [] 24 (y := 376) (pcN := 68) (dC := 0) (bc1 := 0) (bc2 := 0) (c1 := 4) (c2 := 21) (as := [(0, 0), (0, 1)]) (asC := [(0, 0), (0, 1)]) (LN := [(6, (0, 0)), (5, (0, 1)), (4, (4, 19)), (0, (4, 0)), (1, (0, 1)), (2, (0, 0)), (3, (0, x3))]) (stN := [(1, 1), (1, 1), (4, 17)]) (hsC := []) (v := (0, 0)) (st2 := [(0, 0), (1, 1), (1, 1), (4, 17)]) (jA_376_561 (d := 0)) (by rfl) (by rfl) (by decide +kernel) (by rfl) (by rfl) (by omega) (by omega) (by omega) (by omega) rfl ?_
  refine jT_xi2l (x := 0) (z := 0) (pcN := 69) jI_132_68 rfl (by decide +kernel) rfl ?_
  refine jT_fA [17, 22] 24 (y := 10) (pcN := 72) (dC := 2) (bc1 := 2) (bc2 := 8) (c1 := 2) (c2 := 13) (as := [(4, 17), (1, 1), (1, 1), (1, 0)]) (asC := [(4, 0), (1, 1), (1, 1), (1, 0)]) (LN := [(6, (0, 0)), (5, (0, 1)), (4, (4, 19)), (0, (4, 0)), (1, (0, 1)), (2, (0, 0)), (3, (0, x3))]) (stN := []) (hsC := [(4, [(4, 1), (1, 1)], []), (101, [], [0, 0, 0, 0, 0, 0])]) (ex := [(101, [], [0, 0, 0, 0, 0, 0]), (4, [(4, 2), (1, 1)], [])]) (v := (4, 3)) (st2 := [(4, 25)]) (hs2 := jpA_2285) (jA_10_148 (d := 0)) (by rfl) (by rfl) (by decide +kernel) (by rfl) (by rfl) (by omega) (by omega) (by omega) (by omega) rfl (by decide +kernel) ?_
  refine jT_xastore (v := (4, 25)) (LN := [(7, (4, 25)), (6, (0, 0)), (5, (0, 1)), (4, (4, 19)), (0, (4, 0)), (1, (0, 1)), (2, (0, 0)), (3, (0, x3))]) (pcN := 74) jI_132_72 rfl rfl rfl rfl ?_
  refine jT_xaload_n (v := (4, 0)) (pcN := 75) jI_132_74 rfl rfl rfl ?_
  refine jT_xaload (v := (4, 25)) (pcN := 77) jI_132_75 rfl rfl rfl ?_
  refine jT_fR [0, 25, 24] 26 (y := 117) (pcN := 80) (dC := 2) (bc1 := 0) (bc2 := 0) (c1 := 2) (c2 := 13) (as := [(4, 0), (4, 25)]) (asC := [(4, 0), (4, 1)]) (LN := [(7, (4, 25)), (6, (0, 0)), (5, (0, 1)), (4, (4, 19)), (0, (4, 0)), (1, (0, 1)), (2, (0, 0)), (3, (0, x3))]) (stN := []) (hsC := [jgh, (4, [(4, 2), (1, 1)], []), (101, [], [0, 0, 0, 0, 0, 0])]) (v := (9, 0)) (st2 := []) (jA_117_31 (d := 0)) (by rfl) (by rfl) (by decide +kernel) (by rfl) (by rfl) (by omega) (by omega) (by omega) (by omega) rfl ?_
  refine jT_xaload_n (v := (4, 0)) (pcN := 81) jI_132_80 rfl rfl rfl ?_
  refine jT_xaload_n (v := (4, 0)) (pcN := 82) jI_132_81 rfl rfl rfl ?_
  refine jT_xgetf (a := 0) (t := 1) (ci := 13) (fi := 11) (c := jzA_5) (v := (4, 11)) (pcN := 85) jI_132_82 rfl rfl rfl rfl rfl rfl rfl ?_
  refine jT_xiload_n (v := (0, x3)) (pcN := 86) jI_132_85 rfl rfl rfl ?_
  refine jT_xaload (v := (4, 25)) (pcN := 88) jI_132_86 rfl rfl rfl ?_
  refine jT_fA [11, 25, 12, 13, 14, 15, 16, 24, 17] 26 (y := 58) (pcN := 91) (dC := 1) (bc1 := 2) (bc2 := 13) (c1 := 0) (c2 := 0) (as := [(4, 11), (0, x3), (4, 25)]) (asC := [(4, 0), (0, x3), (4, 1)]) (LN := [(7, (4, 25)), (6, (0, 0)), (5, (0, 1)), (4, (4, 19)), (0, (4, 0)), (1, (0, 1)), (2, (0, 0)), (3, (0, x3))]) (stN := [(4, 0)]) (hsC := jpA_74) (ex := [jgh, jzA_72]) (v := (4, 10)) (st2 := [(4, 27), (4, 0)]) (hs2 := jpA_2286) (jA_58_181 (d := 0) (by omega)) (by rfl) (by rfl) (by decide +kernel) (by rfl) (by rfl) (by omega) (by omega) (by omega) (by omega) rfl (by decide +kernel) ?_
  refine jT_fB [0, 27, 1, 2, 3, 4, 5, 6, 7, 8, 9, 10, 11, 12, 13, 14, 15, 16] 28 (y := 100) (pcN := 94) (dC := 0) (bc1 := 0) (bc2 := 0) (c1 := 0) (c2 := 0) (as := [(4, 0), (4, 27)]) (asC := [(4, 0), (4, 1)]) (LN := [(7, (4, 25)), (6, (0, 0)), (5, (0, 1)), (4, (4, 19)), (0, (4, 0)), (1, (0, 1)), (2, (0, 0)), (3, (0, x3))]) (stN := []) (hsC := jpA_80) (hsD := jpA_78) (v := (9, 0)) (st2 := []) (hs2 := jpA_2287) (jA_100_34 (d := 0)) (by rfl) (by rfl) (by decide +kernel) (by rfl) (by rfl) (by omega) (by omega) (by omega) (by omega) rfl (by decide +kernel) ?_
  refine jT_xiload (v := (0, 0)) (pcN := 96) jI_132_94 rfl rfl rfl ?_
  exact jT_ret rfl (by decide) (by show 24 ≤ 28; decide) (by omega) (by omega) ⟨rfl, rfl, rfl⟩
def jpA_2288 : List JC := [jzA_2220, (101, [], [0]), jgh, jgh, jgh, jgh, jgh, jgh, jgh, jgh, jgh, jzA_76, jzA_77, jzA_109, (117, [], [19, 20, 21, 22]), jgh, jgh, jgh, (4, [(4, 23), (1, 1)], []), jgh, (7, [(4, 24), (4, (-1)), (4, (-1))], []), jgh, jgh, (101, [], [0, 0, 0, 0, 0, 0]), (114, [], [18]), (101, [], [0, 0, 0, 0, 0, 0]), (4, [(4, 25), (1, 1)], []), jgh, jzA_2221]
theorem jA_339_583 {xs : List Int} {d : Nat} {x3 : Int} (h_x3 : 0 ≤ x3 ∧ x3 ≤ 7) : jT xs (d + 4) 339 25 0 [(0, (4, 0)), (1, (0, 1)), (2, (0, 0)), (3, (0, x3)), (4, (4, 1))] [] jpA_2284 4 21 (fun k v hsN => k = 0 ∧ v = (0, 0) ∧ hsN = jpA_2288) := by
  refine jT_xaload (v := (4, 1)) (pcN := 2) jI_339_0 rfl rfl rfl ?_
  refine jT_xiconst (k := 0) (pcN := 3) jI_339_2 rfl ?_
  refine jT_xaload_n (v := (4, 0)) (pcN := 4) jI_339_3 rfl rfl rfl ?_
  refine jT_xiload_n (v := (0, 1)) (pcN := 5) jI_339_4 rfl rfl rfl ?_
  refine jT_xiload_n (v := (0, 0)) (pcN := 6) jI_339_5 rfl rfl rfl ?_
  refine jT_xiload_n (v := (0, x3)) (pcN := 7) jI_339_6 rfl rfl rfl ?_
  refine jT_fB [0, 2, 3, 4, 5, 6, 7, 8, 9, 10, 11, 12, 13, 14, 15, 16, 17, 18, 19, 20, 21, 22, 23, 24] 25 (y := 132) (pcN := 10) (dC := 3) (bc1 := 4) (bc2 := 21) (c1 := 0) (c2 := 0) (as := [(4, 0), (0, 1), (0, 0), (0, x3)]) (asC := [(4, 0), (0, 1), (0, 0), (0, x3)]) (LN := [(0, (4, 0)), (1, (0, 1)), (2, (0, 0)), (3, (0, x3)), (4, (4, 1))]) (stN := [(0, 0), (4, 1)]) (hsC := jpA_2283) (hsD := jpA_2287) (v := (0, 0)) (st2 := [(0, 0), (0, 0), (4, 1)]) (hs2 := jpA_2288) (jA_132_582 (d := 0) (by omega)) (by rfl) (by rfl) (by decide +kernel) (by rfl) (by rfl) (by omega) (by omega) (by omega) (by omega) rfl (by decide +kernel) ?_
  refine jT_xi2l (x := 0) (z := 0) (pcN := 11) jI_339_10 rfl (by decide +kernel) rfl ?_
  refine jT_adv 1 (pcN := 12) (LN := [(0, (4, 0)), (1, (0, 1)), (2, (0, 0)), (3, (0, x3)), (4, (4, 1))]) (stN := []) (hsN := jpA_2288) (c1 := 0) (s1 := 0) (c2 := 0) (s2 := 0) (by exact rfl) ?_ (by omega) (by omega)
  refine jT_xgoto (pcN := 27) jI_339_12 rfl ?_
  refine jT_xiconst (k := 0) (pcN := 28) jI_339_27 rfl ?_
  exact jT_ret rfl (by decide) (by show 25 ≤ 29; decide) (by omega) (by omega) ⟨rfl, rfl, rfl⟩
theorem jA_252_584 {xs : List Int} {d : Nat} {x3 : Int} (h_x3 : 0 ≤ x3 ∧ x3 ≤ 7) : jT xs (d + 2) 252 24 0 [(0, (4, 0)), (1, (0, 1)), (2, (0, 0)), (3, (0, x3))] [] jpA_248 0 0 (fun k v hsN => k = 0 ∧ v = (0, 0) ∧ hsN = [jzA_200, (100, [], ((((((((((((((jS0).set ((7 * x3).toNat) 0)).set ((7 * x3 + 1).toNat) 0)).set ((7 * x3 + 2).toNat) 0)).set ((7 * x3 + 3).toNat) 0)).set ((7 * x3 + 4).toNat) 0)).set ((7 * x3 + 5).toNat) 0)).set ((7 * x3 + 6).toNat) 1)), (100, [], []), jzA_196, jzA_201, jgh, jgh, (101, [], [0, 0, 0, 0, 0, 0]), jgh, jgh, jgh, jgh, jgh, jgh, jgh, jgh, (100, [], jS0), jgh, jgh, jgh, jgh, jgh, jgh, jgh]) := by
  refine jT_xaload_n (v := (4, 0)) (pcN := 1) jI_252_0 rfl rfl rfl ?_
  refine jT_xiload_n (v := (0, 1)) (pcN := 2) jI_252_1 rfl rfl rfl ?_
  refine jT_fR [] 24 (y := 238) (pcN := 5) (dC := 1) (bc1 := 0) (bc2 := 0) (c1 := 0) (c2 := 0) (as := [(0, 1)]) (asC := [(0, 1)]) (LN := [(0, (4, 0)), (1, (0, 1)), (2, (0, 0)), (3, (0, x3))]) (stN := [(4, 0)]) (hsC := []) (v := (0, 1)) (st2 := [(0, 1), (4, 0)]) (jA_238_362 (d := 0)) (by rfl) (by rfl) (by decide +kernel) (by rfl) (by rfl) (by omega) (by omega) (by omega) (by omega) rfl ?_
  refine jT_xifF (t := 19) (pcN := 8) jI_252_5 rfl (by decide +kernel) rfl rfl ?_
  refine jT_xiload_n (v := (0, x3)) (pcN := 9) jI_252_8 rfl rfl rfl ?_
  refine jT_fR [] 24 (y := 188) (pcN := 12) (dC := 1) (bc1 := 0) (bc2 := 0) (c1 := 0) (c2 := 0) (as := [(0, x3)]) (asC := [(0, x3)]) (LN := [(0, (4, 0)), (1, (0, 1)), (2, (0, 0)), (3, (0, x3))]) (stN := [(4, 0)]) (hsC := []) (v := (0, 1)) (st2 := [(0, 1), (4, 0)]) (jA_188_37 (d := 0) (by omega)) (by rfl) (by rfl) (by decide +kernel) (by rfl) (by rfl) (by omega) (by omega) (by omega) (by omega) rfl ?_
  refine jT_xifF (t := 19) (pcN := 15) jI_252_12 rfl (by decide +kernel) rfl rfl ?_
  refine jT_xiconst (k := 1) (pcN := 16) jI_252_15 rfl ?_
  refine jT_xgoto (pcN := 20) jI_252_16 rfl ?_
  refine jT_fR [0, 1, 2, 3, 4, 5, 6, 7, 8, 9, 10, 11, 12, 13, 14, 15] 24 (y := 190) (pcN := 23) (dC := 1) (bc1 := 0) (bc2 := 0) (c1 := 0) (c2 := 0) (as := [(4, 0), (0, 1)]) (asC := [(4, 0), (0, 1)]) (LN := [(0, (4, 0)), (1, (0, 1)), (2, (0, 0)), (3, (0, x3))]) (stN := []) (hsC := jpA_22) (v := (0, 0)) (st2 := [(0, 0)]) (jA_190_39 (d := 0)) (by rfl) (by rfl) (by decide +kernel) (by rfl) (by rfl) (by omega) (by omega) (by omega) (by omega) rfl ?_
  refine jT_xifF (t := 45) (pcN := 26) jI_252_23 rfl (by decide +kernel) rfl rfl ?_
  refine jT_xaload_n (v := (4, 0)) (pcN := 27) jI_252_26 rfl rfl rfl ?_
  refine jT_xiload_n (v := (0, 0)) (pcN := 28) jI_252_27 rfl rfl rfl ?_
  refine jT_xi2l (x := 0) (z := 0) (pcN := 29) jI_252_28 rfl (by decide +kernel) rfl ?_
  refine jT_adv 2 (pcN := 35) (LN := [(0, (4, 0)), (1, (0, 1)), (2, (0, 0)), (3, (0, x3))]) (stN := [(1, 200), (1, (-200)), (1, 0), (4, 0)]) (hsN := jpA_248) (c1 := 0) (s1 := 0) (c2 := 0) (s2 := 0) (by exact rfl) ?_ (by omega) (by omega)
  refine jT_fR [] 24 (y := 189) (pcN := 38) (dC := 0) (bc1 := 0) (bc2 := 0) (c1 := 0) (c2 := 0) (as := [(1, 0), (1, (-200)), (1, 200)]) (asC := [(1, 0), (1, (-200)), (1, 200)]) (LN := [(0, (4, 0)), (1, (0, 1)), (2, (0, 0)), (3, (0, x3))]) (stN := [(4, 0)]) (hsC := []) (v := (0, 1)) (st2 := [(0, 1), (4, 0)]) (jA_189_564 (d := 0)) (by rfl) (by rfl) (by decide +kernel) (by rfl) (by rfl) (by omega) (by omega) (by omega) (by omega) rfl ?_
  refine jT_xiconst (k := 2) (pcN := 39) jI_252_38 rfl ?_
  refine jT_fR [0] 24 (y := 191) (pcN := 42) (dC := 0) (bc1 := 0) (bc2 := 0) (c1 := 0) (c2 := 0) (as := [(4, 0), (0, 1), (0, 2)]) (asC := [(4, 0), (0, 1), (0, 2)]) (LN := [(0, (4, 0)), (1, (0, 1)), (2, (0, 0)), (3, (0, x3))]) (stN := []) (hsC := [jgh]) (v := (0, 0)) (st2 := [(0, 0)]) (jA_191_49 (d := 0)) (by rfl) (by rfl) (by decide +kernel) (by rfl) (by rfl) (by omega) (by omega) (by omega) (by omega) rfl ?_
  refine jT_xifT (pcN := 47) jI_252_42 rfl (by decide +kernel) rfl ?_
  refine jT_xiload_n (v := (0, 0)) (pcN := 48) jI_252_47 rfl rfl rfl ?_
  refine jT_xaload_n (v := (4, 0)) (pcN := 49) jI_252_48 rfl rfl rfl ?_
  refine jT_xiload_n (v := (0, 1)) (pcN := 50) jI_252_49 rfl rfl rfl ?_
  refine jT_fR [0, 1, 2, 3, 4, 5, 6, 7, 8, 9, 10, 11, 12, 13, 14, 15] 24 (y := 245) (pcN := 53) (dC := 0) (bc1 := 0) (bc2 := 0) (c1 := 0) (c2 := 0) (as := [(4, 0), (0, 1)]) (asC := [(4, 0), (0, 1)]) (LN := [(0, (4, 0)), (1, (0, 1)), (2, (0, 0)), (3, (0, x3))]) (stN := [(0, 0)]) (hsC := jpA_1519) (v := (0, 1)) (st2 := [(0, 1), (0, 0)]) (jA_245_363 (d := 0)) (by rfl) (by rfl) (by decide +kernel) (by rfl) (by rfl) (by omega) (by omega) (by omega) (by omega) rfl ?_
  refine jT_fR [] 24 (y := 375) (pcN := 56) (dC := 0) (bc1 := 0) (bc2 := 0) (c1 := 0) (c2 := 0) (as := [(0, 0), (0, 1)]) (asC := [(0, 0), (0, 1)]) (LN := [(0, (4, 0)), (1, (0, 1)), (2, (0, 0)), (3, (0, x3))]) (stN := []) (hsC := []) (v := (0, 0)) (st2 := [(0, 0)]) (jA_375_560 (d := 0)) (by rfl) (by rfl) (by decide +kernel) (by rfl) (by rfl) (by omega) (by omega) (by omega) (by omega) rfl ?_
  refine jT_xistore (v := (0, 0)) (LN := [(4, (0, 0)), (0, (4, 0)), (1, (0, 1)), (2, (0, 0)), (3, (0, x3))]) (pcN := 58) jI_252_56 rfl rfl rfl rfl ?_
  refine jT_xaload_n (v := (4, 0)) (pcN := 59) jI_252_58 rfl rfl rfl ?_
  refine jT_xaload_n (v := (4, 0)) (pcN := 60) jI_252_59 rfl rfl rfl ?_
  refine jT_xgetf (a := 0) (t := 1) (ci := 14) (fi := 1) (c := jzA_21) (v := (4, 1)) (pcN := 63) jI_252_60 rfl rfl rfl rfl rfl rfl rfl ?_
  refine jT_xiload_n (v := (0, 1)) (pcN := 64) jI_252_63 rfl rfl rfl ?_
  refine jT_xiload (v := (0, 0)) (pcN := 66) jI_252_64 rfl rfl rfl ?_
  refine jT_fR [] 24 (y := 242) (pcN := 69) (dC := 0) (bc1 := 0) (bc2 := 0) (c1 := 0) (c2 := 0) (as := [(0, 1), (0, 0)]) (asC := [(0, 1), (0, 0)]) (LN := [(4, (0, 0)), (0, (4, 0)), (1, (0, 1)), (2, (0, 0)), (3, (0, x3))]) (stN := [(4, 1), (4, 0)]) (hsC := []) (v := (0, 338)) (st2 := [(0, 338), (4, 1), (4, 0)]) (jA_242_364 (d := 0)) (by rfl) (by rfl) (by decide +kernel) (by rfl) (by rfl) (by omega) (by omega) (by omega) (by omega) rfl ?_
  refine jT_fR [0, 1, 2, 3, 4, 5, 6, 7, 8, 9, 10, 11, 12, 13, 14, 15] 24 (y := 203) (pcN := 72) (dC := 0) (bc1 := 0) (bc2 := 0) (c1 := 0) (c2 := 0) (as := [(4, 0), (4, 1), (0, 338)]) (asC := [(4, 0), (4, 1), (0, 338)]) (LN := [(4, (0, 0)), (0, (4, 0)), (1, (0, 1)), (2, (0, 0)), (3, (0, x3))]) (stN := []) (hsC := jpA_130) (v := (9, 0)) (st2 := []) (jA_203_367 (d := 0)) (by rfl) (by rfl) (by decide +kernel) (by rfl) (by rfl) (by omega) (by omega) (by omega) (by omega) rfl ?_
  refine jT_xaload_n (v := (4, 0)) (pcN := 73) jI_252_72 rfl rfl rfl ?_
  refine jT_xgetf (a := 0) (t := 1) (ci := 14) (fi := 9) (c := jzA_21) (v := (4, 7)) (pcN := 76) jI_252_73 rfl rfl rfl rfl rfl rfl rfl ?_
  refine jT_xiconst (k := 0) (pcN := 77) jI_252_76 rfl ?_
  refine jT_adv 1 (pcN := 78) (LN := [(4, (0, 0)), (0, (4, 0)), (1, (0, 1)), (2, (0, 0)), (3, (0, x3))]) (stN := [(0, 0), (4, 7), (0, 0), (4, 7)]) (hsN := jpA_248) (c1 := 0) (s1 := 0) (c2 := 0) (s2 := 0) (by exact rfl) ?_ (by omega) (by omega)
  refine jT_lald (x := 0) (a := 7) (j := 0) (fs := []) (X := [0, 0, 0, 0, 0, 0]) jI_252_78 rfl rfl rfl rfl ?_
  refine jT_eq (LN := [(4, (0, 0)), (0, (4, 0)), (1, (0, 1)), (2, (0, 0)), (3, (0, x3))]) (stN := [(1, 0), (0, 0), (4, 7)]) (hsN := jpA_248) rfl rfl rfl ?_
  refine jT_xaload_n (v := (4, 0)) (pcN := 80) jI_252_79 rfl rfl rfl ?_
  refine jT_xgetf (a := 0) (t := 1) (ci := 14) (fi := 10) (c := jzA_21) (v := (1, 1)) (pcN := 83) jI_252_80 rfl rfl rfl rfl rfl rfl rfl ?_
  refine jT_xiload_n (v := (0, 0)) (pcN := 84) jI_252_83 rfl rfl rfl ?_
  refine jT_xaload_n (v := (4, 0)) (pcN := 85) jI_252_84 rfl rfl rfl ?_
  refine jT_xiload_n (v := (0, 1)) (pcN := 86) jI_252_85 rfl rfl rfl ?_
  refine jT_fR [0, 1, 2, 3, 4, 5, 6, 7, 8, 9, 10, 11, 12, 13, 14, 15] 24 (y := 245) (pcN := 89) (dC := 0) (bc1 := 0) (bc2 := 0) (c1 := 0) (c2 := 0) (as := [(4, 0), (0, 1)]) (asC := [(4, 0), (0, 1)]) (LN := [(4, (0, 0)), (0, (4, 0)), (1, (0, 1)), (2, (0, 0)), (3, (0, x3))]) (stN := [(0, 0), (1, 1), (1, 0), (0, 0), (4, 7)]) (hsC := jpA_1519) (v := (0, 1)) (st2 := [(0, 1), (0, 0), (1, 1), (1, 0), (0, 0), (4, 7)]) (jA_245_363 (d := 0)) (by rfl) (by rfl) (by decide +kernel) (by rfl) (by rfl) (by omega) (by omega) (by omega) (by omega) rfl ?_
  refine jT_fR [] 24 (y := 376) (pcN := 92) (dC := 0) (bc1 := 0) (bc2 := 0) (c1 := 0) (c2 := 0) (as := [(0, 0), (0, 1)]) (asC := [(0, 0), (0, 1)]) (LN := [(4, (0, 0)), (0, (4, 0)), (1, (0, 1)), (2, (0, 0)), (3, (0, x3))]) (stN := [(1, 1), (1, 0), (0, 0), (4, 7)]) (hsC := []) (v := (0, 0)) (st2 := [(0, 0), (1, 1), (1, 0), (0, 0), (4, 7)]) (jA_376_561 (d := 0)) (by rfl) (by rfl) (by decide +kernel) (by rfl) (by rfl) (by omega) (by omega) (by omega) (by omega) rfl ?_
  refine jT_xi2l (x := 0) (z := 0) (pcN := 93) jI_252_92 rfl (by decide +kernel) rfl ?_
  refine jT_xlmul (x := 1) (y := 0) (z := 0) (pcN := 94) jI_252_93 rfl (by decide) rfl ?_
  refine jT_xladd (x := 0) (y := 0) (z := 0) (pcN := 95) jI_252_94 rfl (by decide) rfl ?_
  refine jT_adv 1 (pcN := 96) (LN := [(4, (0, 0)), (0, (4, 0)), (1, (0, 1)), (2, (0, 0)), (3, (0, x3))]) (stN := []) (hsN := jpA_248) (c1 := 0) (s1 := 0) (c2 := 0) (s2 := 0) (by exact rfl) ?_ (by omega) (by omega)
  refine jT_xaload_n (v := (4, 0)) (pcN := 97) jI_252_96 rfl rfl rfl ?_
  refine jT_xaload_n (v := (4, 0)) (pcN := 98) jI_252_97 rfl rfl rfl ?_
  refine jT_fR [0, 1, 2, 3, 4, 5, 6, 7, 8, 9, 10, 11, 12, 13, 14, 15] 24 (y := 205) (pcN := 101) (dC := 1) (bc1 := 0) (bc2 := 0) (c1 := 0) (c2 := 0) (as := [(4, 0)]) (asC := [(4, 0)]) (LN := [(4, (0, 0)), (0, (4, 0)), (1, (0, 1)), (2, (0, 0)), (3, (0, x3))]) (stN := [(4, 0)]) (hsC := jpA_147) (v := (0, 1)) (st2 := [(0, 1), (4, 0)]) (jA_205_48 (d := 0)) (by rfl) (by rfl) (by decide +kernel) (by rfl) (by rfl) (by omega) (by omega) (by omega) (by omega) rfl ?_
  refine jT_xiconst (k := 3) (pcN := 102) jI_252_101 rfl ?_
  refine jT_fR [0] 24 (y := 191) (pcN := 105) (dC := 0) (bc1 := 0) (bc2 := 0) (c1 := 0) (c2 := 0) (as := [(4, 0), (0, 1), (0, 3)]) (asC := [(4, 0), (0, 1), (0, 3)]) (LN := [(4, (0, 0)), (0, (4, 0)), (1, (0, 1)), (2, (0, 0)), (3, (0, x3))]) (stN := []) (hsC := [jgh]) (v := (0, 0)) (st2 := [(0, 0)]) (jA_191_117 (d := 0)) (by rfl) (by rfl) (by decide +kernel) (by rfl) (by rfl) (by omega) (by omega) (by omega) (by omega) rfl ?_
  refine jT_xifT (pcN := 110) jI_252_105 rfl (by decide +kernel) rfl ?_
  refine jT_xaload_n (v := (4, 0)) (pcN := 111) jI_252_110 rfl rfl rfl ?_
  refine jT_fB [0, 1, 2, 3, 4, 5, 6, 7, 8, 9, 10, 11, 12, 13, 14, 15, 16, 17, 18, 19, 20, 21, 22, 23] 24 (y := 195) (pcN := 114) (dC := 0) (bc1 := 0) (bc2 := 0) (c1 := 0) (c2 := 0) (as := [(4, 0)]) (asC := [(4, 0)]) (LN := [(4, (0, 0)), (0, (4, 0)), (1, (0, 1)), (2, (0, 0)), (3, (0, x3))]) (stN := []) (hsC := jpA_198) (hsD := jpA_202) (v := (9, 0)) (st2 := []) (hs2 := jpA_255) (jA_195_50 (d := 0)) (by rfl) (by rfl) (by decide +kernel) (by rfl) (by rfl) (by omega) (by omega) (by omega) (by omega) rfl (by decide +kernel) ?_
  refine jT_xaload_n (v := (4, 0)) (pcN := 115) jI_252_114 rfl rfl rfl ?_
  refine jT_xiload_n (v := (0, x3)) (pcN := 116) jI_252_115 rfl rfl rfl ?_
  refine jT_fB [0, 1, 2, 3, 4, 5, 6, 7, 8, 9, 10, 11, 12, 13, 14, 15] 24 (y := 196) (pcN := 119) (dC := 1) (bc1 := 0) (bc2 := 0) (c1 := 0) (c2 := 0) (as := [(4, 0), (0, x3)]) (asC := [(4, 0), (0, x3)]) (LN := [(4, (0, 0)), (0, (4, 0)), (1, (0, 1)), (2, (0, 0)), (3, (0, x3))]) (stN := []) (hsC := jpA_216) (hsD := [jzA_200, (100, [], ((((((((((((((jS0).set ((7 * x3).toNat) 0)).set ((7 * x3 + 1).toNat) 0)).set ((7 * x3 + 2).toNat) 0)).set ((7 * x3 + 3).toNat) 0)).set ((7 * x3 + 4).toNat) 0)).set ((7 * x3 + 5).toNat) 0)).set ((7 * x3 + 6).toNat) 1)), jgh, jgh, jgh, jgh, jgh, (101, [], [0, 0, 0, 0, 0, 0]), jgh, jgh, jgh, jgh, jgh, jgh, jgh, jgh]) (v := (0, 1)) (st2 := [(0, 1)]) (hs2 := [jzA_200, (100, [], ((((((((((((((jS0).set ((7 * x3).toNat) 0)).set ((7 * x3 + 1).toNat) 0)).set ((7 * x3 + 2).toNat) 0)).set ((7 * x3 + 3).toNat) 0)).set ((7 * x3 + 4).toNat) 0)).set ((7 * x3 + 5).toNat) 0)).set ((7 * x3 + 6).toNat) 1)), (100, [], []), jzA_196, jzA_201, jgh, jgh, (101, [], [0, 0, 0, 0, 0, 0]), jgh, jgh, jgh, jgh, jgh, jgh, jgh, jgh, (100, [], jS0), jgh, jgh, jgh, jgh, jgh, jgh, jgh]) (jA_196_194 (d := 0) (by omega)) (by rfl) (by rfl) (by decide +kernel) (by rfl) (by rfl) (by omega) (by omega) (by omega) (by omega) rfl rfl ?_
  refine jT_adv 1 (pcN := 120) (LN := [(4, (0, 0)), (0, (4, 0)), (1, (0, 1)), (2, (0, 0)), (3, (0, x3))]) (stN := []) (hsN := [jzA_200, (100, [], ((((((((((((((jS0).set ((7 * x3).toNat) 0)).set ((7 * x3 + 1).toNat) 0)).set ((7 * x3 + 2).toNat) 0)).set ((7 * x3 + 3).toNat) 0)).set ((7 * x3 + 4).toNat) 0)).set ((7 * x3 + 5).toNat) 0)).set ((7 * x3 + 6).toNat) 1)), (100, [], []), jzA_196, jzA_201, jgh, jgh, (101, [], [0, 0, 0, 0, 0, 0]), jgh, jgh, jgh, jgh, jgh, jgh, jgh, jgh, (100, [], jS0), jgh, jgh, jgh, jgh, jgh, jgh, jgh]) (c1 := 0) (s1 := 0) (c2 := 0) (s2 := 0) (by exact rfl) ?_ (by omega) (by omega)
  refine jT_xiload (v := (0, 0)) (pcN := 122) jI_252_120 rfl rfl rfl ?_
  exact jT_ret rfl (by decide) (by show 24 ≤ 24; decide) (by omega) (by omega) ⟨rfl, rfl, rfl⟩
theorem jA_132_585 {xs : List Int} {d : Nat} {x2 x3 : Int} (h_x2 : 1 ≤ x2 ∧ x2 ≤ 200) (h_x3 : 0 ≤ x3 ∧ x3 ≤ 7) : jT xs (d + 3) 132 24 0 [(0, (4, 0)), (1, (0, 1)), (2, (0, x2)), (3, (0, x3))] [] jpA_2283 4 21 (fun k v hsN => k = 0 ∧ v = (0, 0) ∧ hsN = [jzA_2217, jgh, jgh, jgh, jgh, jgh, jgh, jgh, jgh, jgh, jzA_102, jzA_88, jzA_89, (117, [], [18, 19, 20, 21]), jgh, jgh, jgh, (4, [(4, 22), (1, 1)], []), jgh, (7, [(4, 23), (4, (-1)), (4, (-1))], []), jgh, jgh, (101, [], [0, 0, 0, 0, 0, 0]), (114, [], [17]), (101, [], [x2, 0, 0, 0, 0, 0]), (4, [(4, 24), (1, 1)], []), jgh, jzA_2216]) := by
  refine jT_xaload_n (v := (4, 0)) (pcN := 1) jI_132_0 rfl rfl rfl ?_
  refine jT_xiload_n (v := (0, 1)) (pcN := 2) jI_132_1 rfl rfl rfl ?_
  refine jT_xiconst (k := 4) (pcN := 3) jI_132_2 rfl ?_
  refine jT_fR [0] 24 (y := 115) (pcN := 6) (dC := 0) (bc1 := 0) (bc2 := 0) (c1 := 4) (c2 := 21) (as := [(4, 0), (0, 1), (0, 4)]) (asC := [(4, 0), (0, 1), (0, 4)]) (LN := [(0, (4, 0)), (1, (0, 1)), (2, (0, x2)), (3, (0, x3))]) (stN := []) (hsC := [jgh]) (v := (9, 0)) (st2 := []) (jA_115_356 (d := 0)) (by rfl) (by rfl) (by decide +kernel) (by rfl) (by rfl) (by omega) (by omega) (by omega) (by omega) rfl ?_
  refine jT_xaload_n (v := (4, 0)) (pcN := 7) jI_132_6 rfl rfl rfl ?_
  refine jT_xiload_n (v := (0, x3)) (pcN := 8) jI_132_7 rfl rfl rfl ?_
  refine jT_xbipush (k := 8) (pcN := 10) jI_132_8 (by decide) rfl ?_
  refine jT_fR [0] 24 (y := 115) (pcN := 13) (dC := 0) (bc1 := 0) (bc2 := 0) (c1 := 4) (c2 := 21) (as := [(4, 0), (0, x3), (0, 8)]) (asC := [(4, 0), (0, x3), (0, 8)]) (LN := [(0, (4, 0)), (1, (0, 1)), (2, (0, x2)), (3, (0, x3))]) (stN := []) (hsC := [jgh]) (v := (9, 0)) (st2 := []) (jA_115_23 (d := 0) (by omega)) (by rfl) (by rfl) (by decide +kernel) (by rfl) (by rfl) (by omega) (by omega) (by omega) (by omega) rfl ?_
  refine jT_xaload_n (v := (4, 0)) (pcN := 14) jI_132_13 rfl rfl rfl ?_
  refine jT_xiload_n (v := (0, x2)) (pcN := 15) jI_132_14 rfl rfl rfl ?_
  refine jT_xsipush (k := (-200)) (pcN := 18) jI_132_15 (by decide) rfl ?_
  refine jT_xsipush (k := 200) (pcN := 21) jI_132_18 (by decide) rfl ?_
  refine jT_fR [0] 24 (y := 116) (pcN := 24) (dC := 0) (bc1 := 0) (bc2 := 0) (c1 := 4) (c2 := 21) (as := [(4, 0), (0, x2), (0, (-200)), (0, 200)]) (asC := [(4, 0), (0, x2), (0, (-200)), (0, 200)]) (LN := [(0, (4, 0)), (1, (0, 1)), (2, (0, x2)), (3, (0, x3))]) (stN := []) (hsC := [jgh]) (v := (9, 0)) (st2 := []) (jA_116_566 (d := 0) (by omega)) (by rfl) (by rfl) (by decide +kernel) (by rfl) (by rfl) (by omega) (by omega) (by omega) (by omega) rfl ?_
  refine jT_xaload_n (v := (4, 0)) (pcN := 25) jI_132_24 rfl rfl rfl ?_
  refine jT_xgetf (a := 0) (t := 1) (ci := 13) (fi := 11) (c := jzA_5) (v := (4, 11)) (pcN := 28) jI_132_25 rfl rfl rfl rfl rfl rfl rfl ?_
  refine jT_xiload_n (v := (0, 1)) (pcN := 29) jI_132_28 rfl rfl rfl ?_
  refine jT_fR [11, 12, 13, 14, 15, 16, 18, 19, 20, 21] 24 (y := 56) (pcN := 32) (dC := 0) (bc1 := 0) (bc2 := 0) (c1 := 4) (c2 := 21) (as := [(4, 11), (0, 1)]) (asC := [(4, 0), (0, 1)]) (LN := [(0, (4, 0)), (1, (0, 1)), (2, (0, x2)), (3, (0, x3))]) (stN := []) (hsC := jpA_1446) (v := (4, 7)) (st2 := [(4, 19)]) (jA_56_357 (d := 0)) (by rfl) (by rfl) (by decide +kernel) (by rfl) (by rfl) (by omega) (by omega) (by omega) (by omega) rfl ?_
  refine jT_xastore (v := (4, 19)) (LN := [(4, (4, 19)), (0, (4, 0)), (1, (0, 1)), (2, (0, x2)), (3, (0, x3))]) (pcN := 34) jI_132_32 rfl rfl rfl rfl ?_
  refine jT_xiconst (k := 1) (pcN := 35) jI_132_34 rfl ?_
  refine jT_xaload (v := (4, 19)) (pcN := 37) jI_132_35 rfl rfl rfl ?_
  refine jT_fR [19, 23, 17] 24 (y := 29) (pcN := 40) (dC := 0) (bc1 := 0) (bc2 := 0) (c1 := 4) (c2 := 21) (as := [(4, 19)]) (asC := [(4, 0)]) (LN := [(4, (4, 19)), (0, (4, 0)), (1, (0, 1)), (2, (0, x2)), (3, (0, x3))]) (stN := [(0, 1)]) (hsC := [(7, [(4, 1), (4, (-1)), (4, (-1))], []), (114, [], [2]), jgh]) (v := (0, 1)) (st2 := [(0, 1), (0, 1)]) (jA_29_416 (d := 0)) (by rfl) (by rfl) (by decide +kernel) (by rfl) (by rfl) (by omega) (by omega) (by omega) (by omega) rfl ?_
  refine jT_mm0 (x := 1) (y := 1) (z := 1) (by rfl) (by rfl) (by rfl) (by rfl) (jw_idd (by omega) (by omega)) (jw_idd (by omega) (by omega)) (by rw [decide_eq_false (show ¬ ((1 : Int) < 1) by omega)]; rfl) ?_
  refine jT_xistore (v := (0, 1)) (LN := [(5, (0, 1)), (4, (4, 19)), (0, (4, 0)), (1, (0, 1)), (2, (0, x2)), (3, (0, x3))]) (pcN := 45) jI_132_43 rfl rfl rfl rfl ?_
  refine jT_xiload_n (v := (0, x2)) (pcN := 46) jI_132_45 rfl rfl rfl ?_
  refine jT_xiload (v := (0, 1)) (pcN := 48) jI_132_46 rfl rfl rfl ?_
  refine jT_fR [] 24 (y := 375) (pcN := 51) (dC := 0) (bc1 := 0) (bc2 := 0) (c1 := 4) (c2 := 21) (as := [(0, x2), (0, 1)]) (asC := [(0, x2), (0, 1)]) (LN := [(5, (0, 1)), (4, (4, 19)), (0, (4, 0)), (1, (0, 1)), (2, (0, x2)), (3, (0, x3))]) (stN := []) (hsC := []) (v := (0, x2 % 1)) (st2 := [(0, x2 % 1)]) (jT_fmI1 (d := 0) (x := x2) (by omega)) (by rfl) (by rfl) (by decide +kernel) (by rfl) (by rfl) (by omega) (by omega) (by omega) (by omega) rfl ?_
  refine jT_eq (LN := [(5, (0, 1)), (4, (4, 19)), (0, (4, 0)), (1, (0, 1)), (2, (0, x2)), (3, (0, x3))]) (stN := [(0, 0)]) (hsN := [jzA_5, jgh, jgh, jgh, jgh, jgh, jgh, jgh, jgh, jgh, jzA_79, jzA_88, jzA_89, (117, [], [18, 19, 20, 21]), jgh, jgh, jgh, (4, [(4, 22), (1, 1)], []), jgh, (7, [(4, 23), (4, (-1)), (4, (-1))], []), jgh, jgh, (101, [], [0, 0, 0, 0, 0, 0]), (114, [], [17])]) (rfl) (by simp only [List.cons.injEq, Prod.mk.injEq, and_true, true_and] <;> ((try unfold jw); (try unfold jwl); omega)) (rfl) ?_
  refine jT_xistore (v := (0, 0)) (LN := [(6, (0, 0)), (5, (0, 1)), (4, (4, 19)), (0, (4, 0)), (1, (0, 1)), (2, (0, x2)), (3, (0, x3))]) (pcN := 53) jI_132_51 rfl rfl rfl rfl ?_
  refine jT_xaload (v := (4, 19)) (pcN := 55) jI_132_53 rfl rfl rfl ?_
  refine jT_xiload (v := (0, 0)) (pcN := 57) jI_132_55 rfl rfl rfl ?_
  refine jT_fR [19, 23, 17] 24 (y := 30) (pcN := 60) (dC := 0) (bc1 := 0) (bc2 := 0) (c1 := 4) (c2 := 21) (as := [(4, 19), (0, 0)]) (asC := [(4, 0), (0, 0)]) (LN := [(6, (0, 0)), (5, (0, 1)), (4, (4, 19)), (0, (4, 0)), (1, (0, 1)), (2, (0, x2)), (3, (0, x3))]) (stN := []) (hsC := [(7, [(4, 1), (4, (-1)), (4, (-1))], []), (114, [], [2]), jgh]) (v := (4, 2)) (st2 := [(4, 17)]) (jA_30_538 (d := 0)) (by rfl) (by rfl) (by decide +kernel) (by rfl) (by rfl) (by omega) (by omega) (by omega) (by omega) rfl ?_
  refine jT_xlconst (z := 1) (pcN := 61) jI_132_60 rfl rfl ?_
  refine jT_xlconst (z := 1) (pcN := 62) jI_132_61 rfl rfl ?_
  refine jT_xiload_n (v := (0, x2)) (pcN := 63) jI_132_62 rfl rfl rfl ?_
  refine jT_xiload (v := (0, 1)) (pcN := 65) jI_132_63 rfl rfl rfl ?_
  refine jT_fR [] 24 (y := 376) (pcN := 68) (dC := 0) (bc1 := 0) (bc2 := 0) (c1 := 4) (c2 := 21) (as := [(0, x2), (0, 1)]) (asC := [(0, x2), (0, 1)]) (LN := [(6, (0, 0)), (5, (0, 1)), (4, (4, 19)), (0, (4, 0)), (1, (0, 1)), (2, (0, x2)), (3, (0, x3))]) (stN := [(1, 1), (1, 1), (4, 17)]) (hsC := []) (v := (0, x2 / 1)) (st2 := [(0, x2 / 1), (1, 1), (1, 1), (4, 17)]) (jT_fdI1 (d := 0) (x := x2) (by omega)) (by rfl) (by rfl) (by decide +kernel) (by rfl) (by rfl) (by omega) (by omega) (by omega) (by omega) rfl ?_
  refine jT_eq (LN := [(6, (0, 0)), (5, (0, 1)), (4, (4, 19)), (0, (4, 0)), (1, (0, 1)), (2, (0, x2)), (3, (0, x3))]) (stN := [(0, x2), (1, 1), (1, 1), (4, 17)]) (hsN := [jzA_5, jgh, jgh, jgh, jgh, jgh, jgh, jgh, jgh, jgh, jzA_79, jzA_88, jzA_89, (117, [], [18, 19, 20, 21]), jgh, jgh, jgh, (4, [(4, 22), (1, 1)], []), jgh, (7, [(4, 23), (4, (-1)), (4, (-1))], []), jgh, jgh, (101, [], [0, 0, 0, 0, 0, 0]), (114, [], [17])]) (rfl) (by simp only [List.cons.injEq, Prod.mk.injEq, and_true, true_and] <;> ((try unfold jw); (try unfold jwl); omega)) (rfl) ?_
  refine jT_xi2l (x := x2) (z := x2) (pcN := 69) jI_132_68 rfl (jw_idd (by omega) (by omega)) rfl ?_
  refine jT_fA [17, 22] 24 (y := 10) (pcN := 72) (dC := 2) (bc1 := 2) (bc2 := 8) (c1 := 2) (c2 := 13) (as := [(4, 17), (1, 1), (1, 1), (1, x2)]) (asC := [(4, 0), (1, 1), (1, 1), (1, x2)]) (LN := [(6, (0, 0)), (5, (0, 1)), (4, (4, 19)), (0, (4, 0)), (1, (0, 1)), (2, (0, x2)), (3, (0, x3))]) (stN := []) (hsC := [(4, [(4, 1), (1, 1)], []), (101, [], [0, 0, 0, 0, 0, 0])]) (ex := [(101, [], [x2, 0, 0, 0, 0, 0]), (4, [(4, 2), (1, 1)], [])]) (v := (4, 3)) (st2 := [(4, 25)]) (hs2 := [jzA_5, jgh, jgh, jgh, jgh, jgh, jgh, jgh, jgh, jgh, jzA_79, jzA_88, jzA_89, (117, [], [18, 19, 20, 21]), jgh, jgh, jgh, (4, [(4, 22), (1, 1)], []), jgh, (7, [(4, 23), (4, (-1)), (4, (-1))], []), jgh, jgh, (101, [], [0, 0, 0, 0, 0, 0]), (114, [], [17]), (101, [], [x2, 0, 0, 0, 0, 0]), (4, [(4, 24), (1, 1)], [])]) (jA_10_569 (d := 0) (by omega)) (by rfl) (by rfl) (by decide +kernel) (by rfl) (by rfl) (by omega) (by omega) (by omega) (by omega) rfl rfl ?_
  refine jT_xastore (v := (4, 25)) (LN := [(7, (4, 25)), (6, (0, 0)), (5, (0, 1)), (4, (4, 19)), (0, (4, 0)), (1, (0, 1)), (2, (0, x2)), (3, (0, x3))]) (pcN := 74) jI_132_72 rfl rfl rfl rfl ?_
  refine jT_xaload_n (v := (4, 0)) (pcN := 75) jI_132_74 rfl rfl rfl ?_
  refine jT_xaload (v := (4, 25)) (pcN := 77) jI_132_75 rfl rfl rfl ?_
  refine jT_callA [0, 25, 24] (y := 117) (pcN := 80) (dC := 2) (bc1 := 0) (bc2 := 0) (c1 := 2) (c2 := 13) (as := [(4, 0), (4, 25)]) (asC := [(4, 0), (4, 1)]) (LN := [(7, (4, 25)), (6, (0, 0)), (5, (0, 1)), (4, (4, 19)), (0, (4, 0)), (1, (0, 1)), (2, (0, x2)), (3, (0, x3))]) (stN := []) (hsC := [jgh, (4, [(4, 2), (1, 1)], []), (101, [], [x2, 0, 0, 0, 0, 0])]) (ex := []) (v := (9, 0)) (st2 := []) (hs2 := [jzA_5, jgh, jgh, jgh, jgh, jgh, jgh, jgh, jgh, jgh, jzA_79, jzA_88, jzA_89, (117, [], [18, 19, 20, 21]), jgh, jgh, jgh, (4, [(4, 22), (1, 1)], []), jgh, (7, [(4, 23), (4, (-1)), (4, (-1))], []), jgh, jgh, (101, [], [0, 0, 0, 0, 0, 0]), (114, [], [17]), (101, [], [x2, 0, 0, 0, 0, 0]), (4, [(4, 24), (1, 1)], [])]) (jA_117_572 (d := 0) (by omega)) (by rfl) (by rfl) (by rfl) (by rfl) ⟨rfl, rfl, rfl, trivial⟩ (by rfl) (by rfl) (by omega) (by show 24 ≤ 26; omega) (by omega) (by omega) rfl rfl ?_
  refine jT_xaload_n (v := (4, 0)) (pcN := 81) jI_132_80 rfl rfl rfl ?_
  refine jT_xaload_n (v := (4, 0)) (pcN := 82) jI_132_81 rfl rfl rfl ?_
  refine jT_xgetf (a := 0) (t := 1) (ci := 13) (fi := 11) (c := jzA_5) (v := (4, 11)) (pcN := 85) jI_132_82 rfl rfl rfl rfl rfl rfl rfl ?_
  refine jT_xiload_n (v := (0, x3)) (pcN := 86) jI_132_85 rfl rfl rfl ?_
  refine jT_xaload (v := (4, 25)) (pcN := 88) jI_132_86 rfl rfl rfl ?_
  refine jT_callA [11, 25, 12, 13, 14, 15, 16, 24, 17] (y := 58) (pcN := 91) (dC := 1) (bc1 := 2) (bc2 := 13) (c1 := 0) (c2 := 0) (as := [(4, 11), (0, x3), (4, 25)]) (asC := [(4, 0), (0, x3), (4, 1)]) (LN := [(7, (4, 25)), (6, (0, 0)), (5, (0, 1)), (4, (4, 19)), (0, (4, 0)), (1, (0, 1)), (2, (0, x2)), (3, (0, x3))]) (stN := [(4, 0)]) (hsC := jpA_74) (ex := [jgh, jzA_72]) (v := (4, 10)) (st2 := [(4, 27), (4, 0)]) (hs2 := [jzA_5, jgh, jgh, jgh, jgh, jgh, jgh, jgh, jgh, jgh, jzA_79, jzA_88, jzA_89, (117, [], [18, 19, 20, 21]), jgh, jgh, jgh, (4, [(4, 22), (1, 1)], []), jgh, (7, [(4, 23), (4, (-1)), (4, (-1))], []), jgh, jgh, (101, [], [0, 0, 0, 0, 0, 0]), (114, [], [17]), (101, [], [x2, 0, 0, 0, 0, 0]), (4, [(4, 24), (1, 1)], []), jgh, jzA_2216]) (jA_58_181 (d := 0) (by omega)) (by rfl) (by rfl) (by rfl) (by rfl) ⟨rfl, rfl, rfl, rfl, rfl, rfl, rfl, rfl, rfl, trivial⟩ (by rfl) (by rfl) (by omega) (by show 24 ≤ 26; omega) (by omega) (by omega) rfl rfl ?_
  refine jT_callB [0, 27, 1, 2, 3, 4, 5, 6, 7, 8, 9, 10, 11, 12, 13, 14, 15, 16] (y := 100) (pcN := 94) (dC := 0) (bc1 := 0) (bc2 := 0) (c1 := 0) (c2 := 0) (as := [(4, 0), (4, 27)]) (asC := [(4, 0), (4, 1)]) (LN := [(7, (4, 25)), (6, (0, 0)), (5, (0, 1)), (4, (4, 19)), (0, (4, 0)), (1, (0, 1)), (2, (0, x2)), (3, (0, x3))]) (stN := []) (hsC := jpA_80) (hsD := jpA_78) (v := (9, 0)) (st2 := []) (hs2 := [jzA_2217, jgh, jgh, jgh, jgh, jgh, jgh, jgh, jgh, jgh, jzA_102, jzA_88, jzA_89, (117, [], [18, 19, 20, 21]), jgh, jgh, jgh, (4, [(4, 22), (1, 1)], []), jgh, (7, [(4, 23), (4, (-1)), (4, (-1))], []), jgh, jgh, (101, [], [0, 0, 0, 0, 0, 0]), (114, [], [17]), (101, [], [x2, 0, 0, 0, 0, 0]), (4, [(4, 24), (1, 1)], []), jgh, jzA_2216]) (jA_100_34 (d := 0)) (by rfl) (by rfl) (by rfl) (by rfl) ⟨rfl, rfl, rfl, rfl, rfl, rfl, rfl, rfl, rfl, rfl, rfl, rfl, rfl, rfl, rfl, rfl, rfl, rfl, trivial⟩ (by rfl) (by rfl) (by omega) (by show 24 ≤ 28; omega) (by omega) (by omega) rfl rfl ?_
  refine jT_xiload (v := (0, 0)) (pcN := 96) jI_132_94 rfl rfl rfl ?_
  exact jT_ret rfl (by decide) (by show 24 ≤ 28; decide) (by omega) (by omega) ⟨rfl, rfl, rfl⟩
theorem jA_339_586 {xs : List Int} {d : Nat} {x2 x3 : Int} (h_x2 : 1 ≤ x2 ∧ x2 ≤ 200) (h_x3 : 0 ≤ x3 ∧ x3 ≤ 7) : jT xs (d + 4) 339 25 0 [(0, (4, 0)), (1, (0, 1)), (2, (0, x2)), (3, (0, x3)), (4, (4, 1))] [] jpA_2284 4 21 (fun k v hsN => k = 0 ∧ v = (0, 0) ∧ hsN = [jzA_2220, (101, [], [0]), jgh, jgh, jgh, jgh, jgh, jgh, jgh, jgh, jgh, jzA_76, jzA_77, jzA_109, (117, [], [19, 20, 21, 22]), jgh, jgh, jgh, (4, [(4, 23), (1, 1)], []), jgh, (7, [(4, 24), (4, (-1)), (4, (-1))], []), jgh, jgh, (101, [], [0, 0, 0, 0, 0, 0]), (114, [], [18]), (101, [], [x2, 0, 0, 0, 0, 0]), (4, [(4, 25), (1, 1)], []), jgh, jzA_2221]) := by
  refine jT_xaload (v := (4, 1)) (pcN := 2) jI_339_0 rfl rfl rfl ?_
  refine jT_xiconst (k := 0) (pcN := 3) jI_339_2 rfl ?_
  refine jT_xaload_n (v := (4, 0)) (pcN := 4) jI_339_3 rfl rfl rfl ?_
  refine jT_xiload_n (v := (0, 1)) (pcN := 5) jI_339_4 rfl rfl rfl ?_
  refine jT_xiload_n (v := (0, x2)) (pcN := 6) jI_339_5 rfl rfl rfl ?_
  refine jT_xiload_n (v := (0, x3)) (pcN := 7) jI_339_6 rfl rfl rfl ?_
  refine jT_fB [0, 2, 3, 4, 5, 6, 7, 8, 9, 10, 11, 12, 13, 14, 15, 16, 17, 18, 19, 20, 21, 22, 23, 24] 25 (y := 132) (pcN := 10) (dC := 3) (bc1 := 4) (bc2 := 21) (c1 := 0) (c2 := 0) (as := [(4, 0), (0, 1), (0, x2), (0, x3)]) (asC := [(4, 0), (0, 1), (0, x2), (0, x3)]) (LN := [(0, (4, 0)), (1, (0, 1)), (2, (0, x2)), (3, (0, x3)), (4, (4, 1))]) (stN := [(0, 0), (4, 1)]) (hsC := jpA_2283) (hsD := [jzA_2217, jgh, jgh, jgh, jgh, jgh, jgh, jgh, jgh, jgh, jzA_102, jzA_88, jzA_89, (117, [], [18, 19, 20, 21]), jgh, jgh, jgh, (4, [(4, 22), (1, 1)], []), jgh, (7, [(4, 23), (4, (-1)), (4, (-1))], []), jgh, jgh, (101, [], [0, 0, 0, 0, 0, 0]), (114, [], [17]), (101, [], [x2, 0, 0, 0, 0, 0]), (4, [(4, 24), (1, 1)], []), jgh, jzA_2216]) (v := (0, 0)) (st2 := [(0, 0), (0, 0), (4, 1)]) (hs2 := [jzA_2220, (101, [], [0]), jgh, jgh, jgh, jgh, jgh, jgh, jgh, jgh, jgh, jzA_76, jzA_77, jzA_109, (117, [], [19, 20, 21, 22]), jgh, jgh, jgh, (4, [(4, 23), (1, 1)], []), jgh, (7, [(4, 24), (4, (-1)), (4, (-1))], []), jgh, jgh, (101, [], [0, 0, 0, 0, 0, 0]), (114, [], [18]), (101, [], [x2, 0, 0, 0, 0, 0]), (4, [(4, 25), (1, 1)], []), jgh, jzA_2221]) (jA_132_585 (d := 0) (by omega) (by omega)) (by rfl) (by rfl) (by decide +kernel) (by rfl) (by rfl) (by omega) (by omega) (by omega) (by omega) rfl rfl ?_
  refine jT_xi2l (x := 0) (z := 0) (pcN := 11) jI_339_10 rfl (by decide +kernel) rfl ?_
  refine jT_adv 1 (pcN := 12) (LN := [(0, (4, 0)), (1, (0, 1)), (2, (0, x2)), (3, (0, x3)), (4, (4, 1))]) (stN := []) (hsN := [jzA_2220, (101, [], [0]), jgh, jgh, jgh, jgh, jgh, jgh, jgh, jgh, jgh, jzA_76, jzA_77, jzA_109, (117, [], [19, 20, 21, 22]), jgh, jgh, jgh, (4, [(4, 23), (1, 1)], []), jgh, (7, [(4, 24), (4, (-1)), (4, (-1))], []), jgh, jgh, (101, [], [0, 0, 0, 0, 0, 0]), (114, [], [18]), (101, [], [x2, 0, 0, 0, 0, 0]), (4, [(4, 25), (1, 1)], []), jgh, jzA_2221]) (c1 := 0) (s1 := 0) (c2 := 0) (s2 := 0) (by exact rfl) ?_ (by omega) (by omega)
  refine jT_xgoto (pcN := 27) jI_339_12 rfl ?_
  refine jT_xiconst (k := 0) (pcN := 28) jI_339_27 rfl ?_
  exact jT_ret rfl (by decide) (by show 25 ≤ 29; decide) (by omega) (by omega) ⟨rfl, rfl, rfl⟩
theorem jA_252_587 {xs : List Int} {d : Nat} {x2 x3 : Int} (h_x2 : 1 ≤ x2 ∧ x2 ≤ 200) (h_x3 : 0 ≤ x3 ∧ x3 ≤ 7) : jT xs (d + 2) 252 24 0 [(0, (4, 0)), (1, (0, 1)), (2, (0, x2)), (3, (0, x3))] [] jpA_248 0 0 (fun k v hsN => k = 0 ∧ v = (0, 0) ∧ hsN = [jzA_200, (100, [], ((((((((((((((jS0).set ((7 * x3).toNat) x2)).set ((7 * x3 + 1).toNat) 0)).set ((7 * x3 + 2).toNat) 0)).set ((7 * x3 + 3).toNat) 0)).set ((7 * x3 + 4).toNat) 0)).set ((7 * x3 + 5).toNat) 0)).set ((7 * x3 + 6).toNat) 1)), (100, [], []), jzA_196, jzA_201, jgh, jgh, (101, [], [x2, 0, 0, 0, 0, 0]), jgh, jgh, jgh, jgh, jgh, jgh, jgh, jgh, (100, [], jS0), jgh, jgh, jgh, jgh, jgh, jgh, jgh]) := by
  refine jT_xaload_n (v := (4, 0)) (pcN := 1) jI_252_0 rfl rfl rfl ?_
  refine jT_xiload_n (v := (0, 1)) (pcN := 2) jI_252_1 rfl rfl rfl ?_
  refine jT_fR [] 24 (y := 238) (pcN := 5) (dC := 1) (bc1 := 0) (bc2 := 0) (c1 := 0) (c2 := 0) (as := [(0, 1)]) (asC := [(0, 1)]) (LN := [(0, (4, 0)), (1, (0, 1)), (2, (0, x2)), (3, (0, x3))]) (stN := [(4, 0)]) (hsC := []) (v := (0, 1)) (st2 := [(0, 1), (4, 0)]) (jA_238_362 (d := 0)) (by rfl) (by rfl) (by decide +kernel) (by rfl) (by rfl) (by omega) (by omega) (by omega) (by omega) rfl ?_
  refine jT_xifF (t := 19) (pcN := 8) jI_252_5 rfl (by decide +kernel) rfl rfl ?_
  refine jT_xiload_n (v := (0, x3)) (pcN := 9) jI_252_8 rfl rfl rfl ?_
  refine jT_fR [] 24 (y := 188) (pcN := 12) (dC := 1) (bc1 := 0) (bc2 := 0) (c1 := 0) (c2 := 0) (as := [(0, x3)]) (asC := [(0, x3)]) (LN := [(0, (4, 0)), (1, (0, 1)), (2, (0, x2)), (3, (0, x3))]) (stN := [(4, 0)]) (hsC := []) (v := (0, 1)) (st2 := [(0, 1), (4, 0)]) (jA_188_37 (d := 0) (by omega)) (by rfl) (by rfl) (by decide +kernel) (by rfl) (by rfl) (by omega) (by omega) (by omega) (by omega) rfl ?_
  refine jT_xifF (t := 19) (pcN := 15) jI_252_12 rfl (by decide +kernel) rfl rfl ?_
  refine jT_xiconst (k := 1) (pcN := 16) jI_252_15 rfl ?_
  refine jT_xgoto (pcN := 20) jI_252_16 rfl ?_
  refine jT_fR [0, 1, 2, 3, 4, 5, 6, 7, 8, 9, 10, 11, 12, 13, 14, 15] 24 (y := 190) (pcN := 23) (dC := 1) (bc1 := 0) (bc2 := 0) (c1 := 0) (c2 := 0) (as := [(4, 0), (0, 1)]) (asC := [(4, 0), (0, 1)]) (LN := [(0, (4, 0)), (1, (0, 1)), (2, (0, x2)), (3, (0, x3))]) (stN := []) (hsC := jpA_22) (v := (0, 0)) (st2 := [(0, 0)]) (jA_190_39 (d := 0)) (by rfl) (by rfl) (by decide +kernel) (by rfl) (by rfl) (by omega) (by omega) (by omega) (by omega) rfl ?_
  refine jT_xifF (t := 45) (pcN := 26) jI_252_23 rfl (by decide +kernel) rfl rfl ?_
  refine jT_xaload_n (v := (4, 0)) (pcN := 27) jI_252_26 rfl rfl rfl ?_
  refine jT_xiload_n (v := (0, x2)) (pcN := 28) jI_252_27 rfl rfl rfl ?_
  refine jT_xi2l (x := x2) (z := x2) (pcN := 29) jI_252_28 rfl (jw_idd (by omega) (by omega)) rfl ?_
  refine jT_adv 2 (pcN := 35) (LN := [(0, (4, 0)), (1, (0, 1)), (2, (0, x2)), (3, (0, x3))]) (stN := [(1, 200), (1, (-200)), (1, x2), (4, 0)]) (hsN := jpA_248) (c1 := 0) (s1 := 0) (c2 := 0) (s2 := 0) (by exact rfl) ?_ (by omega) (by omega)
  refine jT_fR [] 24 (y := 189) (pcN := 38) (dC := 0) (bc1 := 0) (bc2 := 0) (c1 := 0) (c2 := 0) (as := [(1, x2), (1, (-200)), (1, 200)]) (asC := [(1, x2), (1, (-200)), (1, 200)]) (LN := [(0, (4, 0)), (1, (0, 1)), (2, (0, x2)), (3, (0, x3))]) (stN := [(4, 0)]) (hsC := []) (v := (0, 1)) (st2 := [(0, 1), (4, 0)]) (jT_in_ok (d := 0) (v := x2) (lo := (-200)) (hi := 200) (by omega) (by omega) (by omega) (by omega) (by omega)) (by rfl) (by rfl) (by decide +kernel) (by rfl) (by rfl) (by omega) (by omega) (by omega) (by omega) rfl ?_
  refine jT_xiconst (k := 2) (pcN := 39) jI_252_38 rfl ?_
  refine jT_fR [0] 24 (y := 191) (pcN := 42) (dC := 0) (bc1 := 0) (bc2 := 0) (c1 := 0) (c2 := 0) (as := [(4, 0), (0, 1), (0, 2)]) (asC := [(4, 0), (0, 1), (0, 2)]) (LN := [(0, (4, 0)), (1, (0, 1)), (2, (0, x2)), (3, (0, x3))]) (stN := []) (hsC := [jgh]) (v := (0, 0)) (st2 := [(0, 0)]) (jA_191_49 (d := 0)) (by rfl) (by rfl) (by decide +kernel) (by rfl) (by rfl) (by omega) (by omega) (by omega) (by omega) rfl ?_
  refine jT_xifT (pcN := 47) jI_252_42 rfl (by decide +kernel) rfl ?_
  refine jT_xiload_n (v := (0, x2)) (pcN := 48) jI_252_47 rfl rfl rfl ?_
  refine jT_xaload_n (v := (4, 0)) (pcN := 49) jI_252_48 rfl rfl rfl ?_
  refine jT_xiload_n (v := (0, 1)) (pcN := 50) jI_252_49 rfl rfl rfl ?_
  refine jT_fR [0, 1, 2, 3, 4, 5, 6, 7, 8, 9, 10, 11, 12, 13, 14, 15] 24 (y := 245) (pcN := 53) (dC := 0) (bc1 := 0) (bc2 := 0) (c1 := 0) (c2 := 0) (as := [(4, 0), (0, 1)]) (asC := [(4, 0), (0, 1)]) (LN := [(0, (4, 0)), (1, (0, 1)), (2, (0, x2)), (3, (0, x3))]) (stN := [(0, x2)]) (hsC := jpA_1519) (v := (0, 1)) (st2 := [(0, 1), (0, x2)]) (jA_245_363 (d := 0)) (by rfl) (by rfl) (by decide +kernel) (by rfl) (by rfl) (by omega) (by omega) (by omega) (by omega) rfl ?_
  refine jT_fR [] 24 (y := 375) (pcN := 56) (dC := 0) (bc1 := 0) (bc2 := 0) (c1 := 0) (c2 := 0) (as := [(0, x2), (0, 1)]) (asC := [(0, x2), (0, 1)]) (LN := [(0, (4, 0)), (1, (0, 1)), (2, (0, x2)), (3, (0, x3))]) (stN := []) (hsC := []) (v := (0, x2 % 1)) (st2 := [(0, x2 % 1)]) (jT_fmI1 (d := 0) (x := x2) (by omega)) (by rfl) (by rfl) (by decide +kernel) (by rfl) (by rfl) (by omega) (by omega) (by omega) (by omega) rfl ?_
  refine jT_eq (LN := [(0, (4, 0)), (1, (0, 1)), (2, (0, x2)), (3, (0, x3))]) (stN := [(0, 0)]) (hsN := [jzA_21, (100, [], jS0), (100, [], []), jzA_196, jzA_197, jgh, jgh, (101, [], [0, 0, 0, 0, 0, 0]), jgh, jgh, jgh, jgh, jgh, jgh, jgh, jgh, (100, [], (List.replicate 1613 0)), jgh, jgh, jgh, jgh, jgh, jgh, jgh]) (rfl) (by simp only [List.cons.injEq, Prod.mk.injEq, and_true, true_and] <;> ((try unfold jw); (try unfold jwl); omega)) (rfl) ?_
  refine jT_xistore (v := (0, 0)) (LN := [(4, (0, 0)), (0, (4, 0)), (1, (0, 1)), (2, (0, x2)), (3, (0, x3))]) (pcN := 58) jI_252_56 rfl rfl rfl rfl ?_
  refine jT_xaload_n (v := (4, 0)) (pcN := 59) jI_252_58 rfl rfl rfl ?_
  refine jT_xaload_n (v := (4, 0)) (pcN := 60) jI_252_59 rfl rfl rfl ?_
  refine jT_xgetf (a := 0) (t := 1) (ci := 14) (fi := 1) (c := jzA_21) (v := (4, 1)) (pcN := 63) jI_252_60 rfl rfl rfl rfl rfl rfl rfl ?_
  refine jT_xiload_n (v := (0, 1)) (pcN := 64) jI_252_63 rfl rfl rfl ?_
  refine jT_xiload (v := (0, 0)) (pcN := 66) jI_252_64 rfl rfl rfl ?_
  refine jT_fR [] 24 (y := 242) (pcN := 69) (dC := 0) (bc1 := 0) (bc2 := 0) (c1 := 0) (c2 := 0) (as := [(0, 1), (0, 0)]) (asC := [(0, 1), (0, 0)]) (LN := [(4, (0, 0)), (0, (4, 0)), (1, (0, 1)), (2, (0, x2)), (3, (0, x3))]) (stN := [(4, 1), (4, 0)]) (hsC := []) (v := (0, 338)) (st2 := [(0, 338), (4, 1), (4, 0)]) (jA_242_364 (d := 0)) (by rfl) (by rfl) (by decide +kernel) (by rfl) (by rfl) (by omega) (by omega) (by omega) (by omega) rfl ?_
  refine jT_fR [0, 1, 2, 3, 4, 5, 6, 7, 8, 9, 10, 11, 12, 13, 14, 15] 24 (y := 203) (pcN := 72) (dC := 0) (bc1 := 0) (bc2 := 0) (c1 := 0) (c2 := 0) (as := [(4, 0), (4, 1), (0, 338)]) (asC := [(4, 0), (4, 1), (0, 338)]) (LN := [(4, (0, 0)), (0, (4, 0)), (1, (0, 1)), (2, (0, x2)), (3, (0, x3))]) (stN := []) (hsC := jpA_130) (v := (9, 0)) (st2 := []) (jA_203_367 (d := 0)) (by rfl) (by rfl) (by decide +kernel) (by rfl) (by rfl) (by omega) (by omega) (by omega) (by omega) rfl ?_
  refine jT_xaload_n (v := (4, 0)) (pcN := 73) jI_252_72 rfl rfl rfl ?_
  refine jT_xgetf (a := 0) (t := 1) (ci := 14) (fi := 9) (c := jzA_21) (v := (4, 7)) (pcN := 76) jI_252_73 rfl rfl rfl rfl rfl rfl rfl ?_
  refine jT_xiconst (k := 0) (pcN := 77) jI_252_76 rfl ?_
  refine jT_adv 1 (pcN := 78) (LN := [(4, (0, 0)), (0, (4, 0)), (1, (0, 1)), (2, (0, x2)), (3, (0, x3))]) (stN := [(0, 0), (4, 7), (0, 0), (4, 7)]) (hsN := jpA_248) (c1 := 0) (s1 := 0) (c2 := 0) (s2 := 0) (by exact rfl) ?_ (by omega) (by omega)
  refine jT_lald (x := 0) (a := 7) (j := 0) (fs := []) (X := [0, 0, 0, 0, 0, 0]) jI_252_78 rfl rfl rfl rfl ?_
  refine jT_eq (LN := [(4, (0, 0)), (0, (4, 0)), (1, (0, 1)), (2, (0, x2)), (3, (0, x3))]) (stN := [(1, 0), (0, 0), (4, 7)]) (hsN := jpA_248) rfl rfl rfl ?_
  refine jT_xaload_n (v := (4, 0)) (pcN := 80) jI_252_79 rfl rfl rfl ?_
  refine jT_xgetf (a := 0) (t := 1) (ci := 14) (fi := 10) (c := jzA_21) (v := (1, 1)) (pcN := 83) jI_252_80 rfl rfl rfl rfl rfl rfl rfl ?_
  refine jT_xiload_n (v := (0, x2)) (pcN := 84) jI_252_83 rfl rfl rfl ?_
  refine jT_xaload_n (v := (4, 0)) (pcN := 85) jI_252_84 rfl rfl rfl ?_
  refine jT_xiload_n (v := (0, 1)) (pcN := 86) jI_252_85 rfl rfl rfl ?_
  refine jT_fR [0, 1, 2, 3, 4, 5, 6, 7, 8, 9, 10, 11, 12, 13, 14, 15] 24 (y := 245) (pcN := 89) (dC := 0) (bc1 := 0) (bc2 := 0) (c1 := 0) (c2 := 0) (as := [(4, 0), (0, 1)]) (asC := [(4, 0), (0, 1)]) (LN := [(4, (0, 0)), (0, (4, 0)), (1, (0, 1)), (2, (0, x2)), (3, (0, x3))]) (stN := [(0, x2), (1, 1), (1, 0), (0, 0), (4, 7)]) (hsC := jpA_1519) (v := (0, 1)) (st2 := [(0, 1), (0, x2), (1, 1), (1, 0), (0, 0), (4, 7)]) (jA_245_363 (d := 0)) (by rfl) (by rfl) (by decide +kernel) (by rfl) (by rfl) (by omega) (by omega) (by omega) (by omega) rfl ?_
  refine jT_fR [] 24 (y := 376) (pcN := 92) (dC := 0) (bc1 := 0) (bc2 := 0) (c1 := 0) (c2 := 0) (as := [(0, x2), (0, 1)]) (asC := [(0, x2), (0, 1)]) (LN := [(4, (0, 0)), (0, (4, 0)), (1, (0, 1)), (2, (0, x2)), (3, (0, x3))]) (stN := [(1, 1), (1, 0), (0, 0), (4, 7)]) (hsC := []) (v := (0, x2 / 1)) (st2 := [(0, x2 / 1), (1, 1), (1, 0), (0, 0), (4, 7)]) (jT_fdI1 (d := 0) (x := x2) (by omega)) (by rfl) (by rfl) (by decide +kernel) (by rfl) (by rfl) (by omega) (by omega) (by omega) (by omega) rfl ?_
  refine jT_eq (LN := [(4, (0, 0)), (0, (4, 0)), (1, (0, 1)), (2, (0, x2)), (3, (0, x3))]) (stN := [(0, x2), (1, 1), (1, 0), (0, 0), (4, 7)]) (hsN := [jzA_21, (100, [], jS0), (100, [], []), jzA_196, jzA_197, jgh, jgh, (101, [], [0, 0, 0, 0, 0, 0]), jgh, jgh, jgh, jgh, jgh, jgh, jgh, jgh, (100, [], (List.replicate 1613 0)), jgh, jgh, jgh, jgh, jgh, jgh, jgh]) (rfl) (by simp only [List.cons.injEq, Prod.mk.injEq, and_true, true_and] <;> ((try unfold jw); (try unfold jwl); omega)) (rfl) ?_
  refine jT_xi2l (x := x2) (z := x2) (pcN := 93) jI_252_92 rfl (jw_idd (by omega) (by omega)) rfl ?_
  refine jT_xlmul (x := 1) (y := x2) (z := x2) (pcN := 94) jI_252_93 rfl (by omega) rfl ?_
  refine jT_xladd (x := 0) (y := x2) (z := x2) (pcN := 95) jI_252_94 rfl (by omega) rfl ?_
  refine jT_adv 1 (pcN := 96) (LN := [(4, (0, 0)), (0, (4, 0)), (1, (0, 1)), (2, (0, x2)), (3, (0, x3))]) (stN := []) (hsN := [jzA_21, (100, [], jS0), (100, [], []), jzA_196, jzA_197, jgh, jgh, (101, [], [x2, 0, 0, 0, 0, 0]), jgh, jgh, jgh, jgh, jgh, jgh, jgh, jgh, (100, [], (List.replicate 1613 0)), jgh, jgh, jgh, jgh, jgh, jgh, jgh]) (c1 := 0) (s1 := 0) (c2 := 0) (s2 := 0) (by exact rfl) ?_ (by omega) (by omega)
  refine jT_xaload_n (v := (4, 0)) (pcN := 97) jI_252_96 rfl rfl rfl ?_
  refine jT_xaload_n (v := (4, 0)) (pcN := 98) jI_252_97 rfl rfl rfl ?_
  refine jT_callA [0, 1, 2, 3, 4, 5, 6, 7, 8, 9, 10, 11, 12, 13, 14, 15] (y := 205) (pcN := 101) (dC := 1) (bc1 := 0) (bc2 := 0) (c1 := 0) (c2 := 0) (as := [(4, 0)]) (asC := [(4, 0)]) (LN := [(4, (0, 0)), (0, (4, 0)), (1, (0, 1)), (2, (0, x2)), (3, (0, x3))]) (stN := [(4, 0)]) (hsC := [jzA_21, jgh, jgh, jgh, jgh, jgh, jgh, (101, [], [x2, 0, 0, 0, 0, 0]), jgh, jgh, jgh, jgh, jgh, jgh, jgh, jgh]) (ex := []) (v := (0, 1)) (st2 := [(0, 1), (4, 0)]) (hs2 := [jzA_21, (100, [], jS0), (100, [], []), jzA_196, jzA_197, jgh, jgh, (101, [], [x2, 0, 0, 0, 0, 0]), jgh, jgh, jgh, jgh, jgh, jgh, jgh, jgh, (100, [], (List.replicate 1613 0)), jgh, jgh, jgh, jgh, jgh, jgh, jgh]) (jA_205_575 (d := 0) (by omega)) (by rfl) (by rfl) (by rfl) (by rfl) ⟨rfl, rfl, rfl, rfl, rfl, rfl, rfl, rfl, rfl, rfl, rfl, rfl, rfl, rfl, rfl, rfl, trivial⟩ (by rfl) (by rfl) (by omega) (by show 24 ≤ 24; omega) (by omega) (by omega) rfl rfl ?_
  refine jT_xiconst (k := 3) (pcN := 102) jI_252_101 rfl ?_
  refine jT_callA [0] (y := 191) (pcN := 105) (dC := 0) (bc1 := 0) (bc2 := 0) (c1 := 0) (c2 := 0) (as := [(4, 0), (0, 1), (0, 3)]) (asC := [(4, 0), (0, 1), (0, 3)]) (LN := [(4, (0, 0)), (0, (4, 0)), (1, (0, 1)), (2, (0, x2)), (3, (0, x3))]) (stN := []) (hsC := [jgh]) (ex := []) (v := (0, 0)) (st2 := [(0, 0)]) (hs2 := [jzA_21, (100, [], jS0), (100, [], []), jzA_196, jzA_197, jgh, jgh, (101, [], [x2, 0, 0, 0, 0, 0]), jgh, jgh, jgh, jgh, jgh, jgh, jgh, jgh, (100, [], (List.replicate 1613 0)), jgh, jgh, jgh, jgh, jgh, jgh, jgh]) (jA_191_117 (d := 0)) (by rfl) (by rfl) (by rfl) (by rfl) ⟨rfl, trivial⟩ (by rfl) (by rfl) (by omega) (by show 24 ≤ 24; omega) (by omega) (by omega) rfl rfl ?_
  refine jT_xifT (pcN := 110) jI_252_105 rfl (by decide +kernel) rfl ?_
  refine jT_xaload_n (v := (4, 0)) (pcN := 111) jI_252_110 rfl rfl rfl ?_
  refine jT_callB [0, 1, 2, 3, 4, 5, 6, 7, 8, 9, 10, 11, 12, 13, 14, 15, 16, 17, 18, 19, 20, 21, 22, 23] (y := 195) (pcN := 114) (dC := 0) (bc1 := 0) (bc2 := 0) (c1 := 0) (c2 := 0) (as := [(4, 0)]) (asC := [(4, 0)]) (LN := [(4, (0, 0)), (0, (4, 0)), (1, (0, 1)), (2, (0, x2)), (3, (0, x3))]) (stN := []) (hsC := jpA_198) (hsD := jpA_202) (v := (9, 0)) (st2 := []) (hs2 := [jzA_200, (100, [], jS0), (100, [], []), jzA_196, jzA_201, jgh, jgh, (101, [], [x2, 0, 0, 0, 0, 0]), jgh, jgh, jgh, jgh, jgh, jgh, jgh, jgh, (100, [], jS0), jgh, jgh, jgh, jgh, jgh, jgh, jgh]) (jA_195_50 (d := 0)) (by rfl) (by rfl) (by rfl) (by rfl) ⟨rfl, rfl, rfl, rfl, rfl, rfl, rfl, rfl, rfl, rfl, rfl, rfl, rfl, rfl, rfl, rfl, rfl, rfl, rfl, rfl, rfl, rfl, rfl, rfl, trivial⟩ (by rfl) (by rfl) (by omega) (by show 24 ≤ 24; omega) (by omega) (by omega) rfl rfl ?_
  refine jT_xaload_n (v := (4, 0)) (pcN := 115) jI_252_114 rfl rfl rfl ?_
  refine jT_xiload_n (v := (0, x3)) (pcN := 116) jI_252_115 rfl rfl rfl ?_
  refine jT_callB [0, 1, 2, 3, 4, 5, 6, 7, 8, 9, 10, 11, 12, 13, 14, 15] (y := 196) (pcN := 119) (dC := 1) (bc1 := 0) (bc2 := 0) (c1 := 0) (c2 := 0) (as := [(4, 0), (0, x3)]) (asC := [(4, 0), (0, x3)]) (LN := [(4, (0, 0)), (0, (4, 0)), (1, (0, 1)), (2, (0, x2)), (3, (0, x3))]) (stN := []) (hsC := [jzA_200, (100, [], jS0), jgh, jgh, jgh, jgh, jgh, (101, [], [x2, 0, 0, 0, 0, 0]), jgh, jgh, jgh, jgh, jgh, jgh, jgh, jgh]) (hsD := [jzA_200, (100, [], ((((((((((((((jS0).set ((7 * x3).toNat) x2)).set ((7 * x3 + 1).toNat) 0)).set ((7 * x3 + 2).toNat) 0)).set ((7 * x3 + 3).toNat) 0)).set ((7 * x3 + 4).toNat) 0)).set ((7 * x3 + 5).toNat) 0)).set ((7 * x3 + 6).toNat) 1)), jgh, jgh, jgh, jgh, jgh, (101, [], [x2, 0, 0, 0, 0, 0]), jgh, jgh, jgh, jgh, jgh, jgh, jgh, jgh]) (v := (0, 1)) (st2 := [(0, 1)]) (hs2 := [jzA_200, (100, [], ((((((((((((((jS0).set ((7 * x3).toNat) x2)).set ((7 * x3 + 1).toNat) 0)).set ((7 * x3 + 2).toNat) 0)).set ((7 * x3 + 3).toNat) 0)).set ((7 * x3 + 4).toNat) 0)).set ((7 * x3 + 5).toNat) 0)).set ((7 * x3 + 6).toNat) 1)), (100, [], []), jzA_196, jzA_201, jgh, jgh, (101, [], [x2, 0, 0, 0, 0, 0]), jgh, jgh, jgh, jgh, jgh, jgh, jgh, jgh, (100, [], jS0), jgh, jgh, jgh, jgh, jgh, jgh, jgh]) (jA_196_577 (d := 0) (by omega) (by omega)) (by rfl) (by rfl) (by rfl) (by rfl) ⟨rfl, rfl, rfl, rfl, rfl, rfl, rfl, rfl, rfl, rfl, rfl, rfl, rfl, rfl, rfl, rfl, trivial⟩ (by rfl) (by rfl) (by omega) (by show 24 ≤ 24; omega) (by omega) (by omega) rfl rfl ?_
  refine jT_adv 1 (pcN := 120) (LN := [(4, (0, 0)), (0, (4, 0)), (1, (0, 1)), (2, (0, x2)), (3, (0, x3))]) (stN := []) (hsN := [jzA_200, (100, [], ((((((((((((((jS0).set ((7 * x3).toNat) x2)).set ((7 * x3 + 1).toNat) 0)).set ((7 * x3 + 2).toNat) 0)).set ((7 * x3 + 3).toNat) 0)).set ((7 * x3 + 4).toNat) 0)).set ((7 * x3 + 5).toNat) 0)).set ((7 * x3 + 6).toNat) 1)), (100, [], []), jzA_196, jzA_201, jgh, jgh, (101, [], [x2, 0, 0, 0, 0, 0]), jgh, jgh, jgh, jgh, jgh, jgh, jgh, jgh, (100, [], jS0), jgh, jgh, jgh, jgh, jgh, jgh, jgh]) (c1 := 0) (s1 := 0) (c2 := 0) (s2 := 0) (by exact rfl) ?_ (by omega) (by omega)
  refine jT_xiload (v := (0, 0)) (pcN := 122) jI_252_120 rfl rfl rfl ?_
  exact jT_ret rfl (by decide) (by show 24 ≤ 24; decide) (by omega) (by omega) ⟨rfl, rfl, rfl⟩
def jpA_2289 : List JC := [jzA_5, jgh, jgh, jgh, jgh, jgh, jgh, jgh, jgh, jgh, jzA_79, jzA_88, jzA_89, (117, [], [18, 19, 20, 21]), jgh, jgh, jgh, (4, [(4, 22), (1, 1)], []), jgh, jgh, (7, [(4, 23), (4, (-1)), (4, (-1))], []), jgh, (101, [], [0, 0, 0, 0, 0, 0]), (114, [], [17])]
theorem jA_132_588 {xs : List Int} {d : Nat} {x2 x3 : Int} (h_x2 : (-200) ≤ x2 ∧ x2 ≤ (-1)) (h_x3 : 0 ≤ x3 ∧ x3 ≤ 7) : jT xs (d + 3) 132 24 0 [(0, (4, 0)), (1, (0, 2)), (2, (0, x2)), (3, (0, x3))] [] jpA_2289 4 21 (fun k v hsN => k = 0 ∧ v = (0, 0) ∧ hsN = [jzA_2217, jgh, jgh, jgh, jgh, jgh, jgh, jgh, jgh, jgh, jzA_102, jzA_88, jzA_89, (117, [], [18, 19, 20, 21]), jgh, jgh, jgh, (4, [(4, 22), (1, 1)], []), jgh, jgh, (7, [(4, 23), (4, (-1)), (4, (-1))], []), jgh, (101, [], [0, 0, 0, 0, 0, 0]), (114, [], [17]), (101, [], [x2, 0, 0, 0, 0, 0]), (4, [(4, 24), (1, 1)], []), jgh, jzA_2216]) := by
  refine jT_xaload_n (v := (4, 0)) (pcN := 1) jI_132_0 rfl rfl rfl ?_
  refine jT_xiload_n (v := (0, 2)) (pcN := 2) jI_132_1 rfl rfl rfl ?_
  refine jT_xiconst (k := 4) (pcN := 3) jI_132_2 rfl ?_
  refine jT_fR [0] 24 (y := 115) (pcN := 6) (dC := 0) (bc1 := 0) (bc2 := 0) (c1 := 4) (c2 := 21) (as := [(4, 0), (0, 2), (0, 4)]) (asC := [(4, 0), (0, 2), (0, 4)]) (LN := [(0, (4, 0)), (1, (0, 2)), (2, (0, x2)), (3, (0, x3))]) (stN := []) (hsC := [jgh]) (v := (9, 0)) (st2 := []) (jA_115_372 (d := 0)) (by rfl) (by rfl) (by decide +kernel) (by rfl) (by rfl) (by omega) (by omega) (by omega) (by omega) rfl ?_
  refine jT_xaload_n (v := (4, 0)) (pcN := 7) jI_132_6 rfl rfl rfl ?_
  refine jT_xiload_n (v := (0, x3)) (pcN := 8) jI_132_7 rfl rfl rfl ?_
  refine jT_xbipush (k := 8) (pcN := 10) jI_132_8 (by decide) rfl ?_
  refine jT_fR [0] 24 (y := 115) (pcN := 13) (dC := 0) (bc1 := 0) (bc2 := 0) (c1 := 4) (c2 := 21) (as := [(4, 0), (0, x3), (0, 8)]) (asC := [(4, 0), (0, x3), (0, 8)]) (LN := [(0, (4, 0)), (1, (0, 2)), (2, (0, x2)), (3, (0, x3))]) (stN := []) (hsC := [jgh]) (v := (9, 0)) (st2 := []) (jA_115_23 (d := 0) (by omega)) (by rfl) (by rfl) (by decide +kernel) (by rfl) (by rfl) (by omega) (by omega) (by omega) (by omega) rfl ?_
  refine jT_xaload_n (v := (4, 0)) (pcN := 14) jI_132_13 rfl rfl rfl ?_
  refine jT_xiload_n (v := (0, x2)) (pcN := 15) jI_132_14 rfl rfl rfl ?_
  refine jT_xsipush (k := (-200)) (pcN := 18) jI_132_15 (by decide) rfl ?_
  refine jT_xsipush (k := 200) (pcN := 21) jI_132_18 (by decide) rfl ?_
  refine jT_fR [0] 24 (y := 116) (pcN := 24) (dC := 0) (bc1 := 0) (bc2 := 0) (c1 := 4) (c2 := 21) (as := [(4, 0), (0, x2), (0, (-200)), (0, 200)]) (asC := [(4, 0), (0, x2), (0, (-200)), (0, 200)]) (LN := [(0, (4, 0)), (1, (0, 2)), (2, (0, x2)), (3, (0, x3))]) (stN := []) (hsC := [jgh]) (v := (9, 0)) (st2 := []) (jA_116_542 (d := 0) (by omega)) (by rfl) (by rfl) (by decide +kernel) (by rfl) (by rfl) (by omega) (by omega) (by omega) (by omega) rfl ?_
  refine jT_xaload_n (v := (4, 0)) (pcN := 25) jI_132_24 rfl rfl rfl ?_
  refine jT_xgetf (a := 0) (t := 1) (ci := 13) (fi := 11) (c := jzA_5) (v := (4, 11)) (pcN := 28) jI_132_25 rfl rfl rfl rfl rfl rfl rfl ?_
  refine jT_xiload_n (v := (0, 2)) (pcN := 29) jI_132_28 rfl rfl rfl ?_
  refine jT_fR [11, 12, 13, 14, 15, 16, 18, 19, 20, 21] 24 (y := 56) (pcN := 32) (dC := 0) (bc1 := 0) (bc2 := 0) (c1 := 4) (c2 := 21) (as := [(4, 11), (0, 2)]) (asC := [(4, 0), (0, 2)]) (LN := [(0, (4, 0)), (1, (0, 2)), (2, (0, x2)), (3, (0, x3))]) (stN := []) (hsC := jpA_1446) (v := (4, 8)) (st2 := [(4, 20)]) (jA_56_373 (d := 0)) (by rfl) (by rfl) (by decide +kernel) (by rfl) (by rfl) (by omega) (by omega) (by omega) (by omega) rfl ?_
  refine jT_xastore (v := (4, 20)) (LN := [(4, (4, 20)), (0, (4, 0)), (1, (0, 2)), (2, (0, x2)), (3, (0, x3))]) (pcN := 34) jI_132_32 rfl rfl rfl rfl ?_
  refine jT_xiconst (k := 1) (pcN := 35) jI_132_34 rfl ?_
  refine jT_xaload (v := (4, 20)) (pcN := 37) jI_132_35 rfl rfl rfl ?_
  refine jT_fR [20, 23, 17] 24 (y := 29) (pcN := 40) (dC := 0) (bc1 := 0) (bc2 := 0) (c1 := 4) (c2 := 21) (as := [(4, 20)]) (asC := [(4, 0)]) (LN := [(4, (4, 20)), (0, (4, 0)), (1, (0, 2)), (2, (0, x2)), (3, (0, x3))]) (stN := [(0, 1)]) (hsC := [(7, [(4, 1), (4, (-1)), (4, (-1))], []), (114, [], [2]), jgh]) (v := (0, 1)) (st2 := [(0, 1), (0, 1)]) (jA_29_416 (d := 0)) (by rfl) (by rfl) (by decide +kernel) (by rfl) (by rfl) (by omega) (by omega) (by omega) (by omega) rfl ?_
  refine jT_mm0 (x := 1) (y := 1) (z := 1) (by rfl) (by rfl) (by rfl) (by rfl) (jw_idd (by omega) (by omega)) (jw_idd (by omega) (by omega)) (by rw [decide_eq_false (show ¬ ((1 : Int) < 1) by omega)]; rfl) ?_
  refine jT_xistore (v := (0, 1)) (LN := [(5, (0, 1)), (4, (4, 20)), (0, (4, 0)), (1, (0, 2)), (2, (0, x2)), (3, (0, x3))]) (pcN := 45) jI_132_43 rfl rfl rfl rfl ?_
  refine jT_xiload_n (v := (0, x2)) (pcN := 46) jI_132_45 rfl rfl rfl ?_
  refine jT_xiload (v := (0, 1)) (pcN := 48) jI_132_46 rfl rfl rfl ?_
  refine jT_fR [] 24 (y := 375) (pcN := 51) (dC := 0) (bc1 := 0) (bc2 := 0) (c1 := 4) (c2 := 21) (as := [(0, x2), (0, 1)]) (asC := [(0, x2), (0, 1)]) (LN := [(5, (0, 1)), (4, (4, 20)), (0, (4, 0)), (1, (0, 2)), (2, (0, x2)), (3, (0, x3))]) (stN := []) (hsC := []) (v := (0, x2 % 1)) (st2 := [(0, x2 % 1)]) (jT_fmI1 (d := 0) (x := x2) (by omega)) (by rfl) (by rfl) (by decide +kernel) (by rfl) (by rfl) (by omega) (by omega) (by omega) (by omega) rfl ?_
  refine jT_eq (LN := [(5, (0, 1)), (4, (4, 20)), (0, (4, 0)), (1, (0, 2)), (2, (0, x2)), (3, (0, x3))]) (stN := [(0, 0)]) (hsN := [jzA_5, jgh, jgh, jgh, jgh, jgh, jgh, jgh, jgh, jgh, jzA_79, jzA_88, jzA_89, (117, [], [18, 19, 20, 21]), jgh, jgh, jgh, (4, [(4, 22), (1, 1)], []), jgh, jgh, (7, [(4, 23), (4, (-1)), (4, (-1))], []), jgh, (101, [], [0, 0, 0, 0, 0, 0]), (114, [], [17])]) (rfl) (by simp only [List.cons.injEq, Prod.mk.injEq, and_true, true_and] <;> ((try unfold jw); (try unfold jwl); omega)) (rfl) ?_
  refine jT_xistore (v := (0, 0)) (LN := [(6, (0, 0)), (5, (0, 1)), (4, (4, 20)), (0, (4, 0)), (1, (0, 2)), (2, (0, x2)), (3, (0, x3))]) (pcN := 53) jI_132_51 rfl rfl rfl rfl ?_
  refine jT_xaload (v := (4, 20)) (pcN := 55) jI_132_53 rfl rfl rfl ?_
  refine jT_xiload (v := (0, 0)) (pcN := 57) jI_132_55 rfl rfl rfl ?_
  refine jT_fR [20, 23, 17] 24 (y := 30) (pcN := 60) (dC := 0) (bc1 := 0) (bc2 := 0) (c1 := 4) (c2 := 21) (as := [(4, 20), (0, 0)]) (asC := [(4, 0), (0, 0)]) (LN := [(6, (0, 0)), (5, (0, 1)), (4, (4, 20)), (0, (4, 0)), (1, (0, 2)), (2, (0, x2)), (3, (0, x3))]) (stN := []) (hsC := [(7, [(4, 1), (4, (-1)), (4, (-1))], []), (114, [], [2]), jgh]) (v := (4, 2)) (st2 := [(4, 17)]) (jA_30_538 (d := 0)) (by rfl) (by rfl) (by decide +kernel) (by rfl) (by rfl) (by omega) (by omega) (by omega) (by omega) rfl ?_
  refine jT_xlconst (z := 1) (pcN := 61) jI_132_60 rfl rfl ?_
  refine jT_xlconst (z := 1) (pcN := 62) jI_132_61 rfl rfl ?_
  refine jT_xiload_n (v := (0, x2)) (pcN := 63) jI_132_62 rfl rfl rfl ?_
  refine jT_xiload (v := (0, 1)) (pcN := 65) jI_132_63 rfl rfl rfl ?_
  refine jT_fR [] 24 (y := 376) (pcN := 68) (dC := 0) (bc1 := 0) (bc2 := 0) (c1 := 4) (c2 := 21) (as := [(0, x2), (0, 1)]) (asC := [(0, x2), (0, 1)]) (LN := [(6, (0, 0)), (5, (0, 1)), (4, (4, 20)), (0, (4, 0)), (1, (0, 2)), (2, (0, x2)), (3, (0, x3))]) (stN := [(1, 1), (1, 1), (4, 17)]) (hsC := []) (v := (0, x2 / 1)) (st2 := [(0, x2 / 1), (1, 1), (1, 1), (4, 17)]) (jT_fdI1 (d := 0) (x := x2) (by omega)) (by rfl) (by rfl) (by decide +kernel) (by rfl) (by rfl) (by omega) (by omega) (by omega) (by omega) rfl ?_
  refine jT_eq (LN := [(6, (0, 0)), (5, (0, 1)), (4, (4, 20)), (0, (4, 0)), (1, (0, 2)), (2, (0, x2)), (3, (0, x3))]) (stN := [(0, x2), (1, 1), (1, 1), (4, 17)]) (hsN := [jzA_5, jgh, jgh, jgh, jgh, jgh, jgh, jgh, jgh, jgh, jzA_79, jzA_88, jzA_89, (117, [], [18, 19, 20, 21]), jgh, jgh, jgh, (4, [(4, 22), (1, 1)], []), jgh, jgh, (7, [(4, 23), (4, (-1)), (4, (-1))], []), jgh, (101, [], [0, 0, 0, 0, 0, 0]), (114, [], [17])]) (rfl) (by simp only [List.cons.injEq, Prod.mk.injEq, and_true, true_and] <;> ((try unfold jw); (try unfold jwl); omega)) (rfl) ?_
  refine jT_xi2l (x := x2) (z := x2) (pcN := 69) jI_132_68 rfl (jw_idd (by omega) (by omega)) rfl ?_
  refine jT_fA [17, 22] 24 (y := 10) (pcN := 72) (dC := 2) (bc1 := 2) (bc2 := 8) (c1 := 2) (c2 := 13) (as := [(4, 17), (1, 1), (1, 1), (1, x2)]) (asC := [(4, 0), (1, 1), (1, 1), (1, x2)]) (LN := [(6, (0, 0)), (5, (0, 1)), (4, (4, 20)), (0, (4, 0)), (1, (0, 2)), (2, (0, x2)), (3, (0, x3))]) (stN := []) (hsC := [(4, [(4, 1), (1, 1)], []), (101, [], [0, 0, 0, 0, 0, 0])]) (ex := [(101, [], [x2, 0, 0, 0, 0, 0]), (4, [(4, 2), (1, 1)], [])]) (v := (4, 3)) (st2 := [(4, 25)]) (hs2 := [jzA_5, jgh, jgh, jgh, jgh, jgh, jgh, jgh, jgh, jgh, jzA_79, jzA_88, jzA_89, (117, [], [18, 19, 20, 21]), jgh, jgh, jgh, (4, [(4, 22), (1, 1)], []), jgh, jgh, (7, [(4, 23), (4, (-1)), (4, (-1))], []), jgh, (101, [], [0, 0, 0, 0, 0, 0]), (114, [], [17]), (101, [], [x2, 0, 0, 0, 0, 0]), (4, [(4, 24), (1, 1)], [])]) (jA_10_545 (d := 0) (by omega)) (by rfl) (by rfl) (by decide +kernel) (by rfl) (by rfl) (by omega) (by omega) (by omega) (by omega) rfl rfl ?_
  refine jT_xastore (v := (4, 25)) (LN := [(7, (4, 25)), (6, (0, 0)), (5, (0, 1)), (4, (4, 20)), (0, (4, 0)), (1, (0, 2)), (2, (0, x2)), (3, (0, x3))]) (pcN := 74) jI_132_72 rfl rfl rfl rfl ?_
  refine jT_xaload_n (v := (4, 0)) (pcN := 75) jI_132_74 rfl rfl rfl ?_
  refine jT_xaload (v := (4, 25)) (pcN := 77) jI_132_75 rfl rfl rfl ?_
  refine jT_callA [0, 25, 24] (y := 117) (pcN := 80) (dC := 2) (bc1 := 0) (bc2 := 0) (c1 := 2) (c2 := 13) (as := [(4, 0), (4, 25)]) (asC := [(4, 0), (4, 1)]) (LN := [(7, (4, 25)), (6, (0, 0)), (5, (0, 1)), (4, (4, 20)), (0, (4, 0)), (1, (0, 2)), (2, (0, x2)), (3, (0, x3))]) (stN := []) (hsC := [jgh, (4, [(4, 2), (1, 1)], []), (101, [], [x2, 0, 0, 0, 0, 0])]) (ex := []) (v := (9, 0)) (st2 := []) (hs2 := [jzA_5, jgh, jgh, jgh, jgh, jgh, jgh, jgh, jgh, jgh, jzA_79, jzA_88, jzA_89, (117, [], [18, 19, 20, 21]), jgh, jgh, jgh, (4, [(4, 22), (1, 1)], []), jgh, jgh, (7, [(4, 23), (4, (-1)), (4, (-1))], []), jgh, (101, [], [0, 0, 0, 0, 0, 0]), (114, [], [17]), (101, [], [x2, 0, 0, 0, 0, 0]), (4, [(4, 24), (1, 1)], [])]) (jA_117_548 (d := 0) (by omega)) (by rfl) (by rfl) (by rfl) (by rfl) ⟨rfl, rfl, rfl, trivial⟩ (by rfl) (by rfl) (by omega) (by show 24 ≤ 26; omega) (by omega) (by omega) rfl rfl ?_
  refine jT_xaload_n (v := (4, 0)) (pcN := 81) jI_132_80 rfl rfl rfl ?_
  refine jT_xaload_n (v := (4, 0)) (pcN := 82) jI_132_81 rfl rfl rfl ?_
  refine jT_xgetf (a := 0) (t := 1) (ci := 13) (fi := 11) (c := jzA_5) (v := (4, 11)) (pcN := 85) jI_132_82 rfl rfl rfl rfl rfl rfl rfl ?_
  refine jT_xiload_n (v := (0, x3)) (pcN := 86) jI_132_85 rfl rfl rfl ?_
  refine jT_xaload (v := (4, 25)) (pcN := 88) jI_132_86 rfl rfl rfl ?_
  refine jT_callA [11, 25, 12, 13, 14, 15, 16, 24, 17] (y := 58) (pcN := 91) (dC := 1) (bc1 := 2) (bc2 := 13) (c1 := 0) (c2 := 0) (as := [(4, 11), (0, x3), (4, 25)]) (asC := [(4, 0), (0, x3), (4, 1)]) (LN := [(7, (4, 25)), (6, (0, 0)), (5, (0, 1)), (4, (4, 20)), (0, (4, 0)), (1, (0, 2)), (2, (0, x2)), (3, (0, x3))]) (stN := [(4, 0)]) (hsC := jpA_74) (ex := [jgh, jzA_72]) (v := (4, 10)) (st2 := [(4, 27), (4, 0)]) (hs2 := [jzA_5, jgh, jgh, jgh, jgh, jgh, jgh, jgh, jgh, jgh, jzA_79, jzA_88, jzA_89, (117, [], [18, 19, 20, 21]), jgh, jgh, jgh, (4, [(4, 22), (1, 1)], []), jgh, jgh, (7, [(4, 23), (4, (-1)), (4, (-1))], []), jgh, (101, [], [0, 0, 0, 0, 0, 0]), (114, [], [17]), (101, [], [x2, 0, 0, 0, 0, 0]), (4, [(4, 24), (1, 1)], []), jgh, jzA_2216]) (jA_58_181 (d := 0) (by omega)) (by rfl) (by rfl) (by rfl) (by rfl) ⟨rfl, rfl, rfl, rfl, rfl, rfl, rfl, rfl, rfl, trivial⟩ (by rfl) (by rfl) (by omega) (by show 24 ≤ 26; omega) (by omega) (by omega) rfl rfl ?_
  refine jT_callB [0, 27, 1, 2, 3, 4, 5, 6, 7, 8, 9, 10, 11, 12, 13, 14, 15, 16] (y := 100) (pcN := 94) (dC := 0) (bc1 := 0) (bc2 := 0) (c1 := 0) (c2 := 0) (as := [(4, 0), (4, 27)]) (asC := [(4, 0), (4, 1)]) (LN := [(7, (4, 25)), (6, (0, 0)), (5, (0, 1)), (4, (4, 20)), (0, (4, 0)), (1, (0, 2)), (2, (0, x2)), (3, (0, x3))]) (stN := []) (hsC := jpA_80) (hsD := jpA_78) (v := (9, 0)) (st2 := []) (hs2 := [jzA_2217, jgh, jgh, jgh, jgh, jgh, jgh, jgh, jgh, jgh, jzA_102, jzA_88, jzA_89, (117, [], [18, 19, 20, 21]), jgh, jgh, jgh, (4, [(4, 22), (1, 1)], []), jgh, jgh, (7, [(4, 23), (4, (-1)), (4, (-1))], []), jgh, (101, [], [0, 0, 0, 0, 0, 0]), (114, [], [17]), (101, [], [x2, 0, 0, 0, 0, 0]), (4, [(4, 24), (1, 1)], []), jgh, jzA_2216]) (jA_100_34 (d := 0)) (by rfl) (by rfl) (by rfl) (by rfl) ⟨rfl, rfl, rfl, rfl, rfl, rfl, rfl, rfl, rfl, rfl, rfl, rfl, rfl, rfl, rfl, rfl, rfl, rfl, trivial⟩ (by rfl) (by rfl) (by omega) (by show 24 ≤ 28; omega) (by omega) (by omega) rfl rfl ?_
  refine jT_xiload (v := (0, 0)) (pcN := 96) jI_132_94 rfl rfl rfl ?_
  exact jT_ret rfl (by decide) (by show 24 ≤ 28; decide) (by omega) (by omega) ⟨rfl, rfl, rfl⟩
def jpA_2290 : List JC := [jzA_14, (101, [], [0]), jgh, jgh, jgh, jgh, jgh, jgh, jgh, jgh, jgh, jzA_79, jzA_77, jzA_109, (117, [], [19, 20, 21, 22]), jgh, jgh, jgh, (4, [(4, 23), (1, 1)], []), jgh, jgh, (7, [(4, 24), (4, (-1)), (4, (-1))], []), jgh, (101, [], [0, 0, 0, 0, 0, 0]), (114, [], [18])]
theorem jA_339_589 {xs : List Int} {d : Nat} {x2 x3 : Int} (h_x2 : (-200) ≤ x2 ∧ x2 ≤ (-1)) (h_x3 : 0 ≤ x3 ∧ x3 ≤ 7) : jT xs (d + 4) 339 25 0 [(0, (4, 0)), (1, (0, 2)), (2, (0, x2)), (3, (0, x3)), (4, (4, 1))] [] jpA_2290 4 21 (fun k v hsN => k = 0 ∧ v = (0, 0) ∧ hsN = [jzA_2220, (101, [], [0]), jgh, jgh, jgh, jgh, jgh, jgh, jgh, jgh, jgh, jzA_76, jzA_77, jzA_109, (117, [], [19, 20, 21, 22]), jgh, jgh, jgh, (4, [(4, 23), (1, 1)], []), jgh, jgh, (7, [(4, 24), (4, (-1)), (4, (-1))], []), jgh, (101, [], [0, 0, 0, 0, 0, 0]), (114, [], [18]), (101, [], [x2, 0, 0, 0, 0, 0]), (4, [(4, 25), (1, 1)], []), jgh, jzA_2221]) := by
  refine jT_xaload (v := (4, 1)) (pcN := 2) jI_339_0 rfl rfl rfl ?_
  refine jT_xiconst (k := 0) (pcN := 3) jI_339_2 rfl ?_
  refine jT_xaload_n (v := (4, 0)) (pcN := 4) jI_339_3 rfl rfl rfl ?_
  refine jT_xiload_n (v := (0, 2)) (pcN := 5) jI_339_4 rfl rfl rfl ?_
  refine jT_xiload_n (v := (0, x2)) (pcN := 6) jI_339_5 rfl rfl rfl ?_
  refine jT_xiload_n (v := (0, x3)) (pcN := 7) jI_339_6 rfl rfl rfl ?_
  refine jT_fB [0, 2, 3, 4, 5, 6, 7, 8, 9, 10, 11, 12, 13, 14, 15, 16, 17, 18, 19, 20, 21, 22, 23, 24] 25 (y := 132) (pcN := 10) (dC := 3) (bc1 := 4) (bc2 := 21) (c1 := 0) (c2 := 0) (as := [(4, 0), (0, 2), (0, x2), (0, x3)]) (asC := [(4, 0), (0, 2), (0, x2), (0, x3)]) (LN := [(0, (4, 0)), (1, (0, 2)), (2, (0, x2)), (3, (0, x3)), (4, (4, 1))]) (stN := [(0, 0), (4, 1)]) (hsC := jpA_2289) (hsD := [jzA_2217, jgh, jgh, jgh, jgh, jgh, jgh, jgh, jgh, jgh, jzA_102, jzA_88, jzA_89, (117, [], [18, 19, 20, 21]), jgh, jgh, jgh, (4, [(4, 22), (1, 1)], []), jgh, jgh, (7, [(4, 23), (4, (-1)), (4, (-1))], []), jgh, (101, [], [0, 0, 0, 0, 0, 0]), (114, [], [17]), (101, [], [x2, 0, 0, 0, 0, 0]), (4, [(4, 24), (1, 1)], []), jgh, jzA_2216]) (v := (0, 0)) (st2 := [(0, 0), (0, 0), (4, 1)]) (hs2 := [jzA_2220, (101, [], [0]), jgh, jgh, jgh, jgh, jgh, jgh, jgh, jgh, jgh, jzA_76, jzA_77, jzA_109, (117, [], [19, 20, 21, 22]), jgh, jgh, jgh, (4, [(4, 23), (1, 1)], []), jgh, jgh, (7, [(4, 24), (4, (-1)), (4, (-1))], []), jgh, (101, [], [0, 0, 0, 0, 0, 0]), (114, [], [18]), (101, [], [x2, 0, 0, 0, 0, 0]), (4, [(4, 25), (1, 1)], []), jgh, jzA_2221]) (jA_132_588 (d := 0) (by omega) (by omega)) (by rfl) (by rfl) (by decide +kernel) (by rfl) (by rfl) (by omega) (by omega) (by omega) (by omega) rfl rfl ?_
  refine jT_xi2l (x := 0) (z := 0) (pcN := 11) jI_339_10 rfl (by decide +kernel) rfl ?_
  refine jT_adv 1 (pcN := 12) (LN := [(0, (4, 0)), (1, (0, 2)), (2, (0, x2)), (3, (0, x3)), (4, (4, 1))]) (stN := []) (hsN := [jzA_2220, (101, [], [0]), jgh, jgh, jgh, jgh, jgh, jgh, jgh, jgh, jgh, jzA_76, jzA_77, jzA_109, (117, [], [19, 20, 21, 22]), jgh, jgh, jgh, (4, [(4, 23), (1, 1)], []), jgh, jgh, (7, [(4, 24), (4, (-1)), (4, (-1))], []), jgh, (101, [], [0, 0, 0, 0, 0, 0]), (114, [], [18]), (101, [], [x2, 0, 0, 0, 0, 0]), (4, [(4, 25), (1, 1)], []), jgh, jzA_2221]) (c1 := 0) (s1 := 0) (c2 := 0) (s2 := 0) (by exact rfl) ?_ (by omega) (by omega)
  refine jT_xgoto (pcN := 27) jI_339_12 rfl ?_
  refine jT_xiconst (k := 0) (pcN := 28) jI_339_27 rfl ?_
  exact jT_ret rfl (by decide) (by show 25 ≤ 29; decide) (by omega) (by omega) ⟨rfl, rfl, rfl⟩
theorem jA_252_590 {xs : List Int} {d : Nat} {x2 x3 : Int} (h_x2 : (-200) ≤ x2 ∧ x2 ≤ (-1)) (h_x3 : 0 ≤ x3 ∧ x3 ≤ 7) : jT xs (d + 2) 252 24 0 [(0, (4, 0)), (1, (0, 2)), (2, (0, x2)), (3, (0, x3))] [] jpA_248 0 0 (fun k v hsN => k = 0 ∧ v = (0, 0) ∧ hsN = [jzA_200, (100, [], ((((((((((((((jS0).set ((7 * x3).toNat) x2)).set ((7 * x3 + 1).toNat) 0)).set ((7 * x3 + 2).toNat) 0)).set ((7 * x3 + 3).toNat) 0)).set ((7 * x3 + 4).toNat) 0)).set ((7 * x3 + 5).toNat) 0)).set ((7 * x3 + 6).toNat) 1)), (100, [], []), jzA_196, jzA_201, jgh, jgh, (101, [], [x2, 0, 0, 0, 0, 0]), jgh, jgh, jgh, jgh, jgh, jgh, jgh, jgh, (100, [], jS0), jgh, jgh, jgh, jgh, jgh, jgh, jgh]) := by
  refine jT_xaload_n (v := (4, 0)) (pcN := 1) jI_252_0 rfl rfl rfl ?_
  refine jT_xiload_n (v := (0, 2)) (pcN := 2) jI_252_1 rfl rfl rfl ?_
  refine jT_fR [] 24 (y := 238) (pcN := 5) (dC := 1) (bc1 := 0) (bc2 := 0) (c1 := 0) (c2 := 0) (as := [(0, 2)]) (asC := [(0, 2)]) (LN := [(0, (4, 0)), (1, (0, 2)), (2, (0, x2)), (3, (0, x3))]) (stN := [(4, 0)]) (hsC := []) (v := (0, 1)) (st2 := [(0, 1), (4, 0)]) (jA_238_378 (d := 0)) (by rfl) (by rfl) (by decide +kernel) (by rfl) (by rfl) (by omega) (by omega) (by omega) (by omega) rfl ?_
  refine jT_xifF (t := 19) (pcN := 8) jI_252_5 rfl (by decide +kernel) rfl rfl ?_
  refine jT_xiload_n (v := (0, x3)) (pcN := 9) jI_252_8 rfl rfl rfl ?_
  refine jT_fR [] 24 (y := 188) (pcN := 12) (dC := 1) (bc1 := 0) (bc2 := 0) (c1 := 0) (c2 := 0) (as := [(0, x3)]) (asC := [(0, x3)]) (LN := [(0, (4, 0)), (1, (0, 2)), (2, (0, x2)), (3, (0, x3))]) (stN := [(4, 0)]) (hsC := []) (v := (0, 1)) (st2 := [(0, 1), (4, 0)]) (jA_188_37 (d := 0) (by omega)) (by rfl) (by rfl) (by decide +kernel) (by rfl) (by rfl) (by omega) (by omega) (by omega) (by omega) rfl ?_
  refine jT_xifF (t := 19) (pcN := 15) jI_252_12 rfl (by decide +kernel) rfl rfl ?_
  refine jT_xiconst (k := 1) (pcN := 16) jI_252_15 rfl ?_
  refine jT_xgoto (pcN := 20) jI_252_16 rfl ?_
  refine jT_fR [0, 1, 2, 3, 4, 5, 6, 7, 8, 9, 10, 11, 12, 13, 14, 15] 24 (y := 190) (pcN := 23) (dC := 1) (bc1 := 0) (bc2 := 0) (c1 := 0) (c2 := 0) (as := [(4, 0), (0, 1)]) (asC := [(4, 0), (0, 1)]) (LN := [(0, (4, 0)), (1, (0, 2)), (2, (0, x2)), (3, (0, x3))]) (stN := []) (hsC := jpA_22) (v := (0, 0)) (st2 := [(0, 0)]) (jA_190_39 (d := 0)) (by rfl) (by rfl) (by decide +kernel) (by rfl) (by rfl) (by omega) (by omega) (by omega) (by omega) rfl ?_
  refine jT_xifF (t := 45) (pcN := 26) jI_252_23 rfl (by decide +kernel) rfl rfl ?_
  refine jT_xaload_n (v := (4, 0)) (pcN := 27) jI_252_26 rfl rfl rfl ?_
  refine jT_xiload_n (v := (0, x2)) (pcN := 28) jI_252_27 rfl rfl rfl ?_
  refine jT_xi2l (x := x2) (z := x2) (pcN := 29) jI_252_28 rfl (jw_idd (by omega) (by omega)) rfl ?_
  refine jT_adv 2 (pcN := 35) (LN := [(0, (4, 0)), (1, (0, 2)), (2, (0, x2)), (3, (0, x3))]) (stN := [(1, 200), (1, (-200)), (1, x2), (4, 0)]) (hsN := jpA_248) (c1 := 0) (s1 := 0) (c2 := 0) (s2 := 0) (by exact rfl) ?_ (by omega) (by omega)
  refine jT_fR [] 24 (y := 189) (pcN := 38) (dC := 0) (bc1 := 0) (bc2 := 0) (c1 := 0) (c2 := 0) (as := [(1, x2), (1, (-200)), (1, 200)]) (asC := [(1, x2), (1, (-200)), (1, 200)]) (LN := [(0, (4, 0)), (1, (0, 2)), (2, (0, x2)), (3, (0, x3))]) (stN := [(4, 0)]) (hsC := []) (v := (0, 1)) (st2 := [(0, 1), (4, 0)]) (jT_in_ok (d := 0) (v := x2) (lo := (-200)) (hi := 200) (by omega) (by omega) (by omega) (by omega) (by omega)) (by rfl) (by rfl) (by decide +kernel) (by rfl) (by rfl) (by omega) (by omega) (by omega) (by omega) rfl ?_
  refine jT_xiconst (k := 2) (pcN := 39) jI_252_38 rfl ?_
  refine jT_fR [0] 24 (y := 191) (pcN := 42) (dC := 0) (bc1 := 0) (bc2 := 0) (c1 := 0) (c2 := 0) (as := [(4, 0), (0, 1), (0, 2)]) (asC := [(4, 0), (0, 1), (0, 2)]) (LN := [(0, (4, 0)), (1, (0, 2)), (2, (0, x2)), (3, (0, x3))]) (stN := []) (hsC := [jgh]) (v := (0, 0)) (st2 := [(0, 0)]) (jA_191_49 (d := 0)) (by rfl) (by rfl) (by decide +kernel) (by rfl) (by rfl) (by omega) (by omega) (by omega) (by omega) rfl ?_
  refine jT_xifT (pcN := 47) jI_252_42 rfl (by decide +kernel) rfl ?_
  refine jT_xiload_n (v := (0, x2)) (pcN := 48) jI_252_47 rfl rfl rfl ?_
  refine jT_xaload_n (v := (4, 0)) (pcN := 49) jI_252_48 rfl rfl rfl ?_
  refine jT_xiload_n (v := (0, 2)) (pcN := 50) jI_252_49 rfl rfl rfl ?_
  refine jT_fR [0, 1, 2, 3, 4, 5, 6, 7, 8, 9, 10, 11, 12, 13, 14, 15] 24 (y := 245) (pcN := 53) (dC := 0) (bc1 := 0) (bc2 := 0) (c1 := 0) (c2 := 0) (as := [(4, 0), (0, 2)]) (asC := [(4, 0), (0, 2)]) (LN := [(0, (4, 0)), (1, (0, 2)), (2, (0, x2)), (3, (0, x3))]) (stN := [(0, x2)]) (hsC := jpA_1519) (v := (0, 1)) (st2 := [(0, 1), (0, x2)]) (jA_245_379 (d := 0)) (by rfl) (by rfl) (by decide +kernel) (by rfl) (by rfl) (by omega) (by omega) (by omega) (by omega) rfl ?_
  refine jT_fR [] 24 (y := 375) (pcN := 56) (dC := 0) (bc1 := 0) (bc2 := 0) (c1 := 0) (c2 := 0) (as := [(0, x2), (0, 1)]) (asC := [(0, x2), (0, 1)]) (LN := [(0, (4, 0)), (1, (0, 2)), (2, (0, x2)), (3, (0, x3))]) (stN := []) (hsC := []) (v := (0, x2 % 1)) (st2 := [(0, x2 % 1)]) (jT_fmI1 (d := 0) (x := x2) (by omega)) (by rfl) (by rfl) (by decide +kernel) (by rfl) (by rfl) (by omega) (by omega) (by omega) (by omega) rfl ?_
  refine jT_eq (LN := [(0, (4, 0)), (1, (0, 2)), (2, (0, x2)), (3, (0, x3))]) (stN := [(0, 0)]) (hsN := [jzA_21, (100, [], jS0), (100, [], []), jzA_196, jzA_197, jgh, jgh, (101, [], [0, 0, 0, 0, 0, 0]), jgh, jgh, jgh, jgh, jgh, jgh, jgh, jgh, (100, [], (List.replicate 1613 0)), jgh, jgh, jgh, jgh, jgh, jgh, jgh]) (rfl) (by simp only [List.cons.injEq, Prod.mk.injEq, and_true, true_and] <;> ((try unfold jw); (try unfold jwl); omega)) (rfl) ?_
  refine jT_xistore (v := (0, 0)) (LN := [(4, (0, 0)), (0, (4, 0)), (1, (0, 2)), (2, (0, x2)), (3, (0, x3))]) (pcN := 58) jI_252_56 rfl rfl rfl rfl ?_
  refine jT_xaload_n (v := (4, 0)) (pcN := 59) jI_252_58 rfl rfl rfl ?_
  refine jT_xaload_n (v := (4, 0)) (pcN := 60) jI_252_59 rfl rfl rfl ?_
  refine jT_xgetf (a := 0) (t := 1) (ci := 14) (fi := 1) (c := jzA_21) (v := (4, 1)) (pcN := 63) jI_252_60 rfl rfl rfl rfl rfl rfl rfl ?_
  refine jT_xiload_n (v := (0, 2)) (pcN := 64) jI_252_63 rfl rfl rfl ?_
  refine jT_xiload (v := (0, 0)) (pcN := 66) jI_252_64 rfl rfl rfl ?_
  refine jT_fR [] 24 (y := 242) (pcN := 69) (dC := 0) (bc1 := 0) (bc2 := 0) (c1 := 0) (c2 := 0) (as := [(0, 2), (0, 0)]) (asC := [(0, 2), (0, 0)]) (LN := [(4, (0, 0)), (0, (4, 0)), (1, (0, 2)), (2, (0, x2)), (3, (0, x3))]) (stN := [(4, 1), (4, 0)]) (hsC := []) (v := (0, 619)) (st2 := [(0, 619), (4, 1), (4, 0)]) (jA_242_380 (d := 0)) (by rfl) (by rfl) (by decide +kernel) (by rfl) (by rfl) (by omega) (by omega) (by omega) (by omega) rfl ?_
  refine jT_fR [0, 1, 2, 3, 4, 5, 6, 7, 8, 9, 10, 11, 12, 13, 14, 15] 24 (y := 203) (pcN := 72) (dC := 0) (bc1 := 0) (bc2 := 0) (c1 := 0) (c2 := 0) (as := [(4, 0), (4, 1), (0, 619)]) (asC := [(4, 0), (4, 1), (0, 619)]) (LN := [(4, (0, 0)), (0, (4, 0)), (1, (0, 2)), (2, (0, x2)), (3, (0, x3))]) (stN := []) (hsC := jpA_130) (v := (9, 0)) (st2 := []) (jA_203_383 (d := 0)) (by rfl) (by rfl) (by decide +kernel) (by rfl) (by rfl) (by omega) (by omega) (by omega) (by omega) rfl ?_
  refine jT_xaload_n (v := (4, 0)) (pcN := 73) jI_252_72 rfl rfl rfl ?_
  refine jT_xgetf (a := 0) (t := 1) (ci := 14) (fi := 9) (c := jzA_21) (v := (4, 7)) (pcN := 76) jI_252_73 rfl rfl rfl rfl rfl rfl rfl ?_
  refine jT_xiconst (k := 0) (pcN := 77) jI_252_76 rfl ?_
  refine jT_adv 1 (pcN := 78) (LN := [(4, (0, 0)), (0, (4, 0)), (1, (0, 2)), (2, (0, x2)), (3, (0, x3))]) (stN := [(0, 0), (4, 7), (0, 0), (4, 7)]) (hsN := jpA_248) (c1 := 0) (s1 := 0) (c2 := 0) (s2 := 0) (by exact rfl) ?_ (by omega) (by omega)
  refine jT_lald (x := 0) (a := 7) (j := 0) (fs := []) (X := [0, 0, 0, 0, 0, 0]) jI_252_78 rfl rfl rfl rfl ?_
  refine jT_eq (LN := [(4, (0, 0)), (0, (4, 0)), (1, (0, 2)), (2, (0, x2)), (3, (0, x3))]) (stN := [(1, 0), (0, 0), (4, 7)]) (hsN := jpA_248) rfl rfl rfl ?_
  refine jT_xaload_n (v := (4, 0)) (pcN := 80) jI_252_79 rfl rfl rfl ?_
  refine jT_xgetf (a := 0) (t := 1) (ci := 14) (fi := 10) (c := jzA_21) (v := (1, 1)) (pcN := 83) jI_252_80 rfl rfl rfl rfl rfl rfl rfl ?_
  refine jT_xiload_n (v := (0, x2)) (pcN := 84) jI_252_83 rfl rfl rfl ?_
  refine jT_xaload_n (v := (4, 0)) (pcN := 85) jI_252_84 rfl rfl rfl ?_
  refine jT_xiload_n (v := (0, 2)) (pcN := 86) jI_252_85 rfl rfl rfl ?_
  refine jT_fR [0, 1, 2, 3, 4, 5, 6, 7, 8, 9, 10, 11, 12, 13, 14, 15] 24 (y := 245) (pcN := 89) (dC := 0) (bc1 := 0) (bc2 := 0) (c1 := 0) (c2 := 0) (as := [(4, 0), (0, 2)]) (asC := [(4, 0), (0, 2)]) (LN := [(4, (0, 0)), (0, (4, 0)), (1, (0, 2)), (2, (0, x2)), (3, (0, x3))]) (stN := [(0, x2), (1, 1), (1, 0), (0, 0), (4, 7)]) (hsC := jpA_1519) (v := (0, 1)) (st2 := [(0, 1), (0, x2), (1, 1), (1, 0), (0, 0), (4, 7)]) (jA_245_379 (d := 0)) (by rfl) (by rfl) (by decide +kernel) (by rfl) (by rfl) (by omega) (by omega) (by omega) (by omega) rfl ?_
  refine jT_fR [] 24 (y := 376) (pcN := 92) (dC := 0) (bc1 := 0) (bc2 := 0) (c1 := 0) (c2 := 0) (as := [(0, x2), (0, 1)]) (asC := [(0, x2), (0, 1)]) (LN := [(4, (0, 0)), (0, (4, 0)), (1, (0, 2)), (2, (0, x2)), (3, (0, x3))]) (stN := [(1, 1), (1, 0), (0, 0), (4, 7)]) (hsC := []) (v := (0, x2 / 1)) (st2 := [(0, x2 / 1), (1, 1), (1, 0), (0, 0), (4, 7)]) (jT_fdI1 (d := 0) (x := x2) (by omega)) (by rfl) (by rfl) (by decide +kernel) (by rfl) (by rfl) (by omega) (by omega) (by omega) (by omega) rfl ?_
  refine jT_eq (LN := [(4, (0, 0)), (0, (4, 0)), (1, (0, 2)), (2, (0, x2)), (3, (0, x3))]) (stN := [(0, x2), (1, 1), (1, 0), (0, 0), (4, 7)]) (hsN := [jzA_21, (100, [], jS0), (100, [], []), jzA_196, jzA_197, jgh, jgh, (101, [], [0, 0, 0, 0, 0, 0]), jgh, jgh, jgh, jgh, jgh, jgh, jgh, jgh, (100, [], (List.replicate 1613 0)), jgh, jgh, jgh, jgh, jgh, jgh, jgh]) (rfl) (by simp only [List.cons.injEq, Prod.mk.injEq, and_true, true_and] <;> ((try unfold jw); (try unfold jwl); omega)) (rfl) ?_
  refine jT_xi2l (x := x2) (z := x2) (pcN := 93) jI_252_92 rfl (jw_idd (by omega) (by omega)) rfl ?_
  refine jT_xlmul (x := 1) (y := x2) (z := x2) (pcN := 94) jI_252_93 rfl (by omega) rfl ?_
  refine jT_xladd (x := 0) (y := x2) (z := x2) (pcN := 95) jI_252_94 rfl (by omega) rfl ?_
  refine jT_adv 1 (pcN := 96) (LN := [(4, (0, 0)), (0, (4, 0)), (1, (0, 2)), (2, (0, x2)), (3, (0, x3))]) (stN := []) (hsN := [jzA_21, (100, [], jS0), (100, [], []), jzA_196, jzA_197, jgh, jgh, (101, [], [x2, 0, 0, 0, 0, 0]), jgh, jgh, jgh, jgh, jgh, jgh, jgh, jgh, (100, [], (List.replicate 1613 0)), jgh, jgh, jgh, jgh, jgh, jgh, jgh]) (c1 := 0) (s1 := 0) (c2 := 0) (s2 := 0) (by exact rfl) ?_ (by omega) (by omega)
  refine jT_xaload_n (v := (4, 0)) (pcN := 97) jI_252_96 rfl rfl rfl ?_
  refine jT_xaload_n (v := (4, 0)) (pcN := 98) jI_252_97 rfl rfl rfl ?_
  refine jT_callA [0, 1, 2, 3, 4, 5, 6, 7, 8, 9, 10, 11, 12, 13, 14, 15] (y := 205) (pcN := 101) (dC := 1) (bc1 := 0) (bc2 := 0) (c1 := 0) (c2 := 0) (as := [(4, 0)]) (asC := [(4, 0)]) (LN := [(4, (0, 0)), (0, (4, 0)), (1, (0, 2)), (2, (0, x2)), (3, (0, x3))]) (stN := [(4, 0)]) (hsC := [jzA_21, jgh, jgh, jgh, jgh, jgh, jgh, (101, [], [x2, 0, 0, 0, 0, 0]), jgh, jgh, jgh, jgh, jgh, jgh, jgh, jgh]) (ex := []) (v := (0, 1)) (st2 := [(0, 1), (4, 0)]) (hs2 := [jzA_21, (100, [], jS0), (100, [], []), jzA_196, jzA_197, jgh, jgh, (101, [], [x2, 0, 0, 0, 0, 0]), jgh, jgh, jgh, jgh, jgh, jgh, jgh, jgh, (100, [], (List.replicate 1613 0)), jgh, jgh, jgh, jgh, jgh, jgh, jgh]) (jA_205_551 (d := 0) (by omega)) (by rfl) (by rfl) (by rfl) (by rfl) ⟨rfl, rfl, rfl, rfl, rfl, rfl, rfl, rfl, rfl, rfl, rfl, rfl, rfl, rfl, rfl, rfl, trivial⟩ (by rfl) (by rfl) (by omega) (by show 24 ≤ 24; omega) (by omega) (by omega) rfl rfl ?_
  refine jT_xiconst (k := 3) (pcN := 102) jI_252_101 rfl ?_
  refine jT_callA [0] (y := 191) (pcN := 105) (dC := 0) (bc1 := 0) (bc2 := 0) (c1 := 0) (c2 := 0) (as := [(4, 0), (0, 1), (0, 3)]) (asC := [(4, 0), (0, 1), (0, 3)]) (LN := [(4, (0, 0)), (0, (4, 0)), (1, (0, 2)), (2, (0, x2)), (3, (0, x3))]) (stN := []) (hsC := [jgh]) (ex := []) (v := (0, 0)) (st2 := [(0, 0)]) (hs2 := [jzA_21, (100, [], jS0), (100, [], []), jzA_196, jzA_197, jgh, jgh, (101, [], [x2, 0, 0, 0, 0, 0]), jgh, jgh, jgh, jgh, jgh, jgh, jgh, jgh, (100, [], (List.replicate 1613 0)), jgh, jgh, jgh, jgh, jgh, jgh, jgh]) (jA_191_117 (d := 0)) (by rfl) (by rfl) (by rfl) (by rfl) ⟨rfl, trivial⟩ (by rfl) (by rfl) (by omega) (by show 24 ≤ 24; omega) (by omega) (by omega) rfl rfl ?_
  refine jT_xifT (pcN := 110) jI_252_105 rfl (by decide +kernel) rfl ?_
  refine jT_xaload_n (v := (4, 0)) (pcN := 111) jI_252_110 rfl rfl rfl ?_
  refine jT_callB [0, 1, 2, 3, 4, 5, 6, 7, 8, 9, 10, 11, 12, 13, 14, 15, 16, 17, 18, 19, 20, 21, 22, 23] (y := 195) (pcN := 114) (dC := 0) (bc1 := 0) (bc2 := 0) (c1 := 0) (c2 := 0) (as := [(4, 0)]) (asC := [(4, 0)]) (LN := [(4, (0, 0)), (0, (4, 0)), (1, (0, 2)), (2, (0, x2)), (3, (0, x3))]) (stN := []) (hsC := jpA_198) (hsD := jpA_202) (v := (9, 0)) (st2 := []) (hs2 := [jzA_200, (100, [], jS0), (100, [], []), jzA_196, jzA_201, jgh, jgh, (101, [], [x2, 0, 0, 0, 0, 0]), jgh, jgh, jgh, jgh, jgh, jgh, jgh, jgh, (100, [], jS0), jgh, jgh, jgh, jgh, jgh, jgh, jgh]) (jA_195_50 (d := 0)) (by rfl) (by rfl) (by rfl) (by rfl) ⟨rfl, rfl, rfl, rfl, rfl, rfl, rfl, rfl, rfl, rfl, rfl, rfl, rfl, rfl, rfl, rfl, rfl, rfl, rfl, rfl, rfl, rfl, rfl, rfl, trivial⟩ (by rfl) (by rfl) (by omega) (by show 24 ≤ 24; omega) (by omega) (by omega) rfl rfl ?_
  refine jT_xaload_n (v := (4, 0)) (pcN := 115) jI_252_114 rfl rfl rfl ?_
  refine jT_xiload_n (v := (0, x3)) (pcN := 116) jI_252_115 rfl rfl rfl ?_
  refine jT_callB [0, 1, 2, 3, 4, 5, 6, 7, 8, 9, 10, 11, 12, 13, 14, 15] (y := 196) (pcN := 119) (dC := 1) (bc1 := 0) (bc2 := 0) (c1 := 0) (c2 := 0) (as := [(4, 0), (0, x3)]) (asC := [(4, 0), (0, x3)]) (LN := [(4, (0, 0)), (0, (4, 0)), (1, (0, 2)), (2, (0, x2)), (3, (0, x3))]) (stN := []) (hsC := [jzA_200, (100, [], jS0), jgh, jgh, jgh, jgh, jgh, (101, [], [x2, 0, 0, 0, 0, 0]), jgh, jgh, jgh, jgh, jgh, jgh, jgh, jgh]) (hsD := [jzA_200, (100, [], ((((((((((((((jS0).set ((7 * x3).toNat) x2)).set ((7 * x3 + 1).toNat) 0)).set ((7 * x3 + 2).toNat) 0)).set ((7 * x3 + 3).toNat) 0)).set ((7 * x3 + 4).toNat) 0)).set ((7 * x3 + 5).toNat) 0)).set ((7 * x3 + 6).toNat) 1)), jgh, jgh, jgh, jgh, jgh, (101, [], [x2, 0, 0, 0, 0, 0]), jgh, jgh, jgh, jgh, jgh, jgh, jgh, jgh]) (v := (0, 1)) (st2 := [(0, 1)]) (hs2 := [jzA_200, (100, [], ((((((((((((((jS0).set ((7 * x3).toNat) x2)).set ((7 * x3 + 1).toNat) 0)).set ((7 * x3 + 2).toNat) 0)).set ((7 * x3 + 3).toNat) 0)).set ((7 * x3 + 4).toNat) 0)).set ((7 * x3 + 5).toNat) 0)).set ((7 * x3 + 6).toNat) 1)), (100, [], []), jzA_196, jzA_201, jgh, jgh, (101, [], [x2, 0, 0, 0, 0, 0]), jgh, jgh, jgh, jgh, jgh, jgh, jgh, jgh, (100, [], jS0), jgh, jgh, jgh, jgh, jgh, jgh, jgh]) (jA_196_553 (d := 0) (by omega) (by omega)) (by rfl) (by rfl) (by rfl) (by rfl) ⟨rfl, rfl, rfl, rfl, rfl, rfl, rfl, rfl, rfl, rfl, rfl, rfl, rfl, rfl, rfl, rfl, trivial⟩ (by rfl) (by rfl) (by omega) (by show 24 ≤ 24; omega) (by omega) (by omega) rfl rfl ?_
  refine jT_adv 1 (pcN := 120) (LN := [(4, (0, 0)), (0, (4, 0)), (1, (0, 2)), (2, (0, x2)), (3, (0, x3))]) (stN := []) (hsN := [jzA_200, (100, [], ((((((((((((((jS0).set ((7 * x3).toNat) x2)).set ((7 * x3 + 1).toNat) 0)).set ((7 * x3 + 2).toNat) 0)).set ((7 * x3 + 3).toNat) 0)).set ((7 * x3 + 4).toNat) 0)).set ((7 * x3 + 5).toNat) 0)).set ((7 * x3 + 6).toNat) 1)), (100, [], []), jzA_196, jzA_201, jgh, jgh, (101, [], [x2, 0, 0, 0, 0, 0]), jgh, jgh, jgh, jgh, jgh, jgh, jgh, jgh, (100, [], jS0), jgh, jgh, jgh, jgh, jgh, jgh, jgh]) (c1 := 0) (s1 := 0) (c2 := 0) (s2 := 0) (by exact rfl) ?_ (by omega) (by omega)
  refine jT_xiload (v := (0, 0)) (pcN := 122) jI_252_120 rfl rfl rfl ?_
  exact jT_ret rfl (by decide) (by show 24 ≤ 24; decide) (by omega) (by omega) ⟨rfl, rfl, rfl⟩
def jpA_2291 : List JC := [jzA_5, jgh, jgh, jgh, jgh, jgh, jgh, jgh, jgh, jgh, jzA_79, jzA_88, jzA_89, (117, [], [18, 19, 20, 21]), jgh, jgh, jgh, (4, [(4, 22), (1, 1)], []), jgh, jgh, (7, [(4, 23), (4, (-1)), (4, (-1))], []), jgh, (101, [], [0, 0, 0, 0, 0, 0]), (114, [], [17]), (101, [], [0, 0, 0, 0, 0, 0]), (4, [(4, 24), (1, 1)], [])]
def jpA_2292 : List JC := [jzA_5, jgh, jgh, jgh, jgh, jgh, jgh, jgh, jgh, jgh, jzA_79, jzA_88, jzA_89, (117, [], [18, 19, 20, 21]), jgh, jgh, jgh, (4, [(4, 22), (1, 1)], []), jgh, jgh, (7, [(4, 23), (4, (-1)), (4, (-1))], []), jgh, (101, [], [0, 0, 0, 0, 0, 0]), (114, [], [17]), (101, [], [0, 0, 0, 0, 0, 0]), (4, [(4, 24), (1, 1)], []), jgh, jzA_2216]
def jpA_2293 : List JC := [jzA_2217, jgh, jgh, jgh, jgh, jgh, jgh, jgh, jgh, jgh, jzA_102, jzA_88, jzA_89, (117, [], [18, 19, 20, 21]), jgh, jgh, jgh, (4, [(4, 22), (1, 1)], []), jgh, jgh, (7, [(4, 23), (4, (-1)), (4, (-1))], []), jgh, (101, [], [0, 0, 0, 0, 0, 0]), (114, [], [17]), (101, [], [0, 0, 0, 0, 0, 0]), (4, [(4, 24), (1, 1)], []), jgh, jzA_2216]
theorem jA_132_591 {xs : List Int} {d : Nat} {x3 : Int} (h_x3 : 0 ≤ x3 ∧ x3 ≤ 7) : jT xs (d + 3) 132 24 0 [(0, (4, 0)), (1, (0, 2)), (2, (0, 0)), (3, (0, x3))] [] jpA_2289 4 21 (fun k v hsN => k = 0 ∧ v = (0, 0) ∧ hsN = jpA_2293) := by
  refine jT_xaload_n (v := (4, 0)) (pcN := 1) jI_132_0 rfl rfl rfl ?_
  refine jT_xiload_n (v := (0, 2)) (pcN := 2) jI_132_1 rfl rfl rfl ?_
  refine jT_xiconst (k := 4) (pcN := 3) jI_132_2 rfl ?_
  refine jT_fR [0] 24 (y := 115) (pcN := 6) (dC := 0) (bc1 := 0) (bc2 := 0) (c1 := 4) (c2 := 21) (as := [(4, 0), (0, 2), (0, 4)]) (asC := [(4, 0), (0, 2), (0, 4)]) (LN := [(0, (4, 0)), (1, (0, 2)), (2, (0, 0)), (3, (0, x3))]) (stN := []) (hsC := [jgh]) (v := (9, 0)) (st2 := []) (jA_115_372 (d := 0)) (by rfl) (by rfl) (by decide +kernel) (by rfl) (by rfl) (by omega) (by omega) (by omega) (by omega) rfl ?_
  refine jT_xaload_n (v := (4, 0)) (pcN := 7) jI_132_6 rfl rfl rfl ?_
  refine jT_xiload_n (v := (0, x3)) (pcN := 8) jI_132_7 rfl rfl rfl ?_
  refine jT_xbipush (k := 8) (pcN := 10) jI_132_8 (by decide) rfl ?_
  refine jT_fR [0] 24 (y := 115) (pcN := 13) (dC := 0) (bc1 := 0) (bc2 := 0) (c1 := 4) (c2 := 21) (as := [(4, 0), (0, x3), (0, 8)]) (asC := [(4, 0), (0, x3), (0, 8)]) (LN := [(0, (4, 0)), (1, (0, 2)), (2, (0, 0)), (3, (0, x3))]) (stN := []) (hsC := [jgh]) (v := (9, 0)) (st2 := []) (jA_115_23 (d := 0) (by omega)) (by rfl) (by rfl) (by decide +kernel) (by rfl) (by rfl) (by omega) (by omega) (by omega) (by omega) rfl ?_
  refine jT_xaload_n (v := (4, 0)) (pcN := 14) jI_132_13 rfl rfl rfl ?_
  refine jT_xiload_n (v := (0, 0)) (pcN := 15) jI_132_14 rfl rfl rfl ?_
  refine jT_xsipush (k := (-200)) (pcN := 18) jI_132_15 (by decide) rfl ?_
  refine jT_xsipush (k := 200) (pcN := 21) jI_132_18 (by decide) rfl ?_
  refine jT_fR [0] 24 (y := 116) (pcN := 24) (dC := 0) (bc1 := 0) (bc2 := 0) (c1 := 4) (c2 := 21) (as := [(4, 0), (0, 0), (0, (-200)), (0, 200)]) (asC := [(4, 0), (0, 0), (0, (-200)), (0, 200)]) (LN := [(0, (4, 0)), (1, (0, 2)), (2, (0, 0)), (3, (0, x3))]) (stN := []) (hsC := [jgh]) (v := (9, 0)) (st2 := []) (jA_116_559 (d := 0)) (by rfl) (by rfl) (by decide +kernel) (by rfl) (by rfl) (by omega) (by omega) (by omega) (by omega) rfl ?_
  refine jT_xaload_n (v := (4, 0)) (pcN := 25) jI_132_24 rfl rfl rfl ?_
  refine jT_xgetf (a := 0) (t := 1) (ci := 13) (fi := 11) (c := jzA_5) (v := (4, 11)) (pcN := 28) jI_132_25 rfl rfl rfl rfl rfl rfl rfl ?_
  refine jT_xiload_n (v := (0, 2)) (pcN := 29) jI_132_28 rfl rfl rfl ?_
  refine jT_fR [11, 12, 13, 14, 15, 16, 18, 19, 20, 21] 24 (y := 56) (pcN := 32) (dC := 0) (bc1 := 0) (bc2 := 0) (c1 := 4) (c2 := 21) (as := [(4, 11), (0, 2)]) (asC := [(4, 0), (0, 2)]) (LN := [(0, (4, 0)), (1, (0, 2)), (2, (0, 0)), (3, (0, x3))]) (stN := []) (hsC := jpA_1446) (v := (4, 8)) (st2 := [(4, 20)]) (jA_56_373 (d := 0)) (by rfl) (by rfl) (by decide +kernel) (by rfl) (by rfl) (by omega) (by omega) (by omega) (by omega) rfl ?_
  refine jT_xastore (v := (4, 20)) (LN := [(4, (4, 20)), (0, (4, 0)), (1, (0, 2)), (2, (0, 0)), (3, (0, x3))]) (pcN := 34) jI_132_32 rfl rfl rfl rfl ?_
  refine jT_xiconst (k := 1) (pcN := 35) jI_132_34 rfl ?_
  refine jT_xaload (v := (4, 20)) (pcN := 37) jI_132_35 rfl rfl rfl ?_
  refine jT_fR [20, 23, 17] 24 (y := 29) (pcN := 40) (dC := 0) (bc1 := 0) (bc2 := 0) (c1 := 4) (c2 := 21) (as := [(4, 20)]) (asC := [(4, 0)]) (LN := [(4, (4, 20)), (0, (4, 0)), (1, (0, 2)), (2, (0, 0)), (3, (0, x3))]) (stN := [(0, 1)]) (hsC := [(7, [(4, 1), (4, (-1)), (4, (-1))], []), (114, [], [2]), jgh]) (v := (0, 1)) (st2 := [(0, 1), (0, 1)]) (jA_29_416 (d := 0)) (by rfl) (by rfl) (by decide +kernel) (by rfl) (by rfl) (by omega) (by omega) (by omega) (by omega) rfl ?_
  refine jT_mm0 (x := 1) (y := 1) (z := 1) (by rfl) (by rfl) (by rfl) (by rfl) (jw_idd (by omega) (by omega)) (jw_idd (by omega) (by omega)) (by rw [decide_eq_false (show ¬ ((1 : Int) < 1) by omega)]; rfl) ?_
  refine jT_xistore (v := (0, 1)) (LN := [(5, (0, 1)), (4, (4, 20)), (0, (4, 0)), (1, (0, 2)), (2, (0, 0)), (3, (0, x3))]) (pcN := 45) jI_132_43 rfl rfl rfl rfl ?_
  refine jT_xiload_n (v := (0, 0)) (pcN := 46) jI_132_45 rfl rfl rfl ?_
  refine jT_xiload (v := (0, 1)) (pcN := 48) jI_132_46 rfl rfl rfl ?_
  refine jT_fR [] 24 (y := 375) (pcN := 51) (dC := 0) (bc1 := 0) (bc2 := 0) (c1 := 4) (c2 := 21) (as := [(0, 0), (0, 1)]) (asC := [(0, 0), (0, 1)]) (LN := [(5, (0, 1)), (4, (4, 20)), (0, (4, 0)), (1, (0, 2)), (2, (0, 0)), (3, (0, x3))]) (stN := []) (hsC := []) (v := (0, 0)) (st2 := [(0, 0)]) (jA_375_560 (d := 0)) (by rfl) (by rfl) (by decide +kernel) (by rfl) (by rfl) (by omega) (by omega) (by omega) (by omega) rfl ?_
  refine jT_xistore (v := (0, 0)) (LN := [(6, (0, 0)), (5, (0, 1)), (4, (4, 20)), (0, (4, 0)), (1, (0, 2)), (2, (0, 0)), (3, (0, x3))]) (pcN := 53) jI_132_51 rfl rfl rfl rfl ?_
  refine jT_xaload (v := (4, 20)) (pcN := 55) jI_132_53 rfl rfl rfl ?_
  refine jT_xiload (v := (0, 0)) (pcN := 57) jI_132_55 rfl rfl rfl ?_
  refine jT_fR [20, 23, 17] 24 (y := 30) (pcN := 60) (dC := 0) (bc1 := 0) (bc2 := 0) (c1 := 4) (c2 := 21) (as := [(4, 20), (0, 0)]) (asC := [(4, 0), (0, 0)]) (LN := [(6, (0, 0)), (5, (0, 1)), (4, (4, 20)), (0, (4, 0)), (1, (0, 2)), (2, (0, 0)), (3, (0, x3))]) (stN := []) (hsC := [(7, [(4, 1), (4, (-1)), (4, (-1))], []), (114, [], [2]), jgh]) (v := (4, 2)) (st2 := [(4, 17)]) (jA_30_538 (d := 0)) (by rfl) (by rfl) (by decide +kernel) (by rfl) (by rfl) (by omega) (by omega) (by omega) (by omega) rfl ?_
  refine jT_xlconst (z := 1) (pcN := 61) jI_132_60 rfl rfl ?_
  refine jT_xlconst (z := 1) (pcN := 62) jI_132_61 rfl rfl ?_
  refine jT_xiload_n (v := (0, 0)) (pcN := 63) jI_132_62 rfl rfl rfl ?_
  refine jT_xiload (v := (0, 1)) (pcN := 65) jI_132_63 rfl rfl rfl ?_
  refine jT_fR [] 24 (y := 376) (pcN := 68) (dC := 0) (bc1 := 0) (bc2 := 0) (c1 := 4) (c2 := 21) (as := [(0, 0), (0, 1)]) (asC := [(0, 0), (0, 1)]) (LN := [(6, (0, 0)), (5, (0, 1)), (4, (4, 20)), (0, (4, 0)), (1, (0, 2)), (2, (0, 0)), (3, (0, x3))]) (stN := [(1, 1), (1, 1), (4, 17)]) (hsC := []) (v := (0, 0)) (st2 := [(0, 0), (1, 1), (1, 1), (4, 17)]) (jA_376_561 (d := 0)) (by rfl) (by rfl) (by decide +kernel) (by rfl) (by rfl) (by omega) (by omega) (by omega) (by omega) rfl ?_
  refine jT_xi2l (x := 0) (z := 0) (pcN := 69) jI_132_68 rfl (by decide +kernel) rfl ?_
  refine jT_fA [17, 22] 24 (y := 10) (pcN := 72) (dC := 2) (bc1 := 2) (bc2 := 8) (c1 := 2) (c2 := 13) (as := [(4, 17), (1, 1), (1, 1), (1, 0)]) (asC := [(4, 0), (1, 1), (1, 1), (1, 0)]) (LN := [(6, (0, 0)), (5, (0, 1)), (4, (4, 20)), (0, (4, 0)), (1, (0, 2)), (2, (0, 0)), (3, (0, x3))]) (stN := []) (hsC := [(4, [(4, 1), (1, 1)], []), (101, [], [0, 0, 0, 0, 0, 0])]) (ex := [(101, [], [0, 0, 0, 0, 0, 0]), (4, [(4, 2), (1, 1)], [])]) (v := (4, 3)) (st2 := [(4, 25)]) (hs2 := jpA_2291) (jA_10_148 (d := 0)) (by rfl) (by rfl) (by decide +kernel) (by rfl) (by rfl) (by omega) (by omega) (by omega) (by omega) rfl (by decide +kernel) ?_
  refine jT_xastore (v := (4, 25)) (LN := [(7, (4, 25)), (6, (0, 0)), (5, (0, 1)), (4, (4, 20)), (0, (4, 0)), (1, (0, 2)), (2, (0, 0)), (3, (0, x3))]) (pcN := 74) jI_132_72 rfl rfl rfl rfl ?_
  refine jT_xaload_n (v := (4, 0)) (pcN := 75) jI_132_74 rfl rfl rfl ?_
  refine jT_xaload (v := (4, 25)) (pcN := 77) jI_132_75 rfl rfl rfl ?_
  refine jT_fR [0, 25, 24] 26 (y := 117) (pcN := 80) (dC := 2) (bc1 := 0) (bc2 := 0) (c1 := 2) (c2 := 13) (as := [(4, 0), (4, 25)]) (asC := [(4, 0), (4, 1)]) (LN := [(7, (4, 25)), (6, (0, 0)), (5, (0, 1)), (4, (4, 20)), (0, (4, 0)), (1, (0, 2)), (2, (0, 0)), (3, (0, x3))]) (stN := []) (hsC := [jgh, (4, [(4, 2), (1, 1)], []), (101, [], [0, 0, 0, 0, 0, 0])]) (v := (9, 0)) (st2 := []) (jA_117_31 (d := 0)) (by rfl) (by rfl) (by decide +kernel) (by rfl) (by rfl) (by omega) (by omega) (by omega) (by omega) rfl ?_
  refine jT_xaload_n (v := (4, 0)) (pcN := 81) jI_132_80 rfl rfl rfl ?_
  refine jT_xaload_n (v := (4, 0)) (pcN := 82) jI_132_81 rfl rfl rfl ?_
  refine jT_xgetf (a := 0) (t := 1) (ci := 13) (fi := 11) (c := jzA_5) (v := (4, 11)) (pcN := 85) jI_132_82 rfl rfl rfl rfl rfl rfl rfl ?_
  refine jT_xiload_n (v := (0, x3)) (pcN := 86) jI_132_85 rfl rfl rfl ?_
  refine jT_xaload (v := (4, 25)) (pcN := 88) jI_132_86 rfl rfl rfl ?_
  refine jT_fA [11, 25, 12, 13, 14, 15, 16, 24, 17] 26 (y := 58) (pcN := 91) (dC := 1) (bc1 := 2) (bc2 := 13) (c1 := 0) (c2 := 0) (as := [(4, 11), (0, x3), (4, 25)]) (asC := [(4, 0), (0, x3), (4, 1)]) (LN := [(7, (4, 25)), (6, (0, 0)), (5, (0, 1)), (4, (4, 20)), (0, (4, 0)), (1, (0, 2)), (2, (0, 0)), (3, (0, x3))]) (stN := [(4, 0)]) (hsC := jpA_74) (ex := [jgh, jzA_72]) (v := (4, 10)) (st2 := [(4, 27), (4, 0)]) (hs2 := jpA_2292) (jA_58_181 (d := 0) (by omega)) (by rfl) (by rfl) (by decide +kernel) (by rfl) (by rfl) (by omega) (by omega) (by omega) (by omega) rfl (by decide +kernel) ?_
  refine jT_fB [0, 27, 1, 2, 3, 4, 5, 6, 7, 8, 9, 10, 11, 12, 13, 14, 15, 16] 28 (y := 100) (pcN := 94) (dC := 0) (bc1 := 0) (bc2 := 0) (c1 := 0) (c2 := 0) (as := [(4, 0), (4, 27)]) (asC := [(4, 0), (4, 1)]) (LN := [(7, (4, 25)), (6, (0, 0)), (5, (0, 1)), (4, (4, 20)), (0, (4, 0)), (1, (0, 2)), (2, (0, 0)), (3, (0, x3))]) (stN := []) (hsC := jpA_80) (hsD := jpA_78) (v := (9, 0)) (st2 := []) (hs2 := jpA_2293) (jA_100_34 (d := 0)) (by rfl) (by rfl) (by decide +kernel) (by rfl) (by rfl) (by omega) (by omega) (by omega) (by omega) rfl (by decide +kernel) ?_
  refine jT_xiload (v := (0, 0)) (pcN := 96) jI_132_94 rfl rfl rfl ?_
  exact jT_ret rfl (by decide) (by show 24 ≤ 28; decide) (by omega) (by omega) ⟨rfl, rfl, rfl⟩
def jpA_2294 : List JC := [jzA_2220, (101, [], [0]), jgh, jgh, jgh, jgh, jgh, jgh, jgh, jgh, jgh, jzA_76, jzA_77, jzA_109, (117, [], [19, 20, 21, 22]), jgh, jgh, jgh, (4, [(4, 23), (1, 1)], []), jgh, jgh, (7, [(4, 24), (4, (-1)), (4, (-1))], []), jgh, (101, [], [0, 0, 0, 0, 0, 0]), (114, [], [18]), (101, [], [0, 0, 0, 0, 0, 0]), (4, [(4, 25), (1, 1)], []), jgh, jzA_2221]
theorem jA_339_592 {xs : List Int} {d : Nat} {x3 : Int} (h_x3 : 0 ≤ x3 ∧ x3 ≤ 7) : jT xs (d + 4) 339 25 0 [(0, (4, 0)), (1, (0, 2)), (2, (0, 0)), (3, (0, x3)), (4, (4, 1))] [] jpA_2290 4 21 (fun k v hsN => k = 0 ∧ v = (0, 0) ∧ hsN = jpA_2294) := by
  refine jT_xaload (v := (4, 1)) (pcN := 2) jI_339_0 rfl rfl rfl ?_
  refine jT_xiconst (k := 0) (pcN := 3) jI_339_2 rfl ?_
  refine jT_xaload_n (v := (4, 0)) (pcN := 4) jI_339_3 rfl rfl rfl ?_
  refine jT_xiload_n (v := (0, 2)) (pcN := 5) jI_339_4 rfl rfl rfl ?_
  refine jT_xiload_n (v := (0, 0)) (pcN := 6) jI_339_5 rfl rfl rfl ?_
  refine jT_xiload_n (v := (0, x3)) (pcN := 7) jI_339_6 rfl rfl rfl ?_
  refine jT_fB [0, 2, 3, 4, 5, 6, 7, 8, 9, 10, 11, 12, 13, 14, 15, 16, 17, 18, 19, 20, 21, 22, 23, 24] 25 (y := 132) (pcN := 10) (dC := 3) (bc1 := 4) (bc2 := 21) (c1 := 0) (c2 := 0) (as := [(4, 0), (0, 2), (0, 0), (0, x3)]) (asC := [(4, 0), (0, 2), (0, 0), (0, x3)]) (LN := [(0, (4, 0)), (1, (0, 2)), (2, (0, 0)), (3, (0, x3)), (4, (4, 1))]) (stN := [(0, 0), (4, 1)]) (hsC := jpA_2289) (hsD := jpA_2293) (v := (0, 0)) (st2 := [(0, 0), (0, 0), (4, 1)]) (hs2 := jpA_2294) (jA_132_591 (d := 0) (by omega)) (by rfl) (by rfl) (by decide +kernel) (by rfl) (by rfl) (by omega) (by omega) (by omega) (by omega) rfl (by decide +kernel) ?_
  refine jT_xi2l (x := 0) (z := 0) (pcN := 11) jI_339_10 rfl (by decide +kernel) rfl ?_
  refine jT_adv 1 (pcN := 12) (LN := [(0, (4, 0)), (1, (0, 2)), (2, (0, 0)), (3, (0, x3)), (4, (4, 1))]) (stN := []) (hsN := jpA_2294) (c1 := 0) (s1 := 0) (c2 := 0) (s2 := 0) (by exact rfl) ?_ (by omega) (by omega)
  refine jT_xgoto (pcN := 27) jI_339_12 rfl ?_
  refine jT_xiconst (k := 0) (pcN := 28) jI_339_27 rfl ?_
  exact jT_ret rfl (by decide) (by show 25 ≤ 29; decide) (by omega) (by omega) ⟨rfl, rfl, rfl⟩
theorem jA_252_593 {xs : List Int} {d : Nat} {x3 : Int} (h_x3 : 0 ≤ x3 ∧ x3 ≤ 7) : jT xs (d + 2) 252 24 0 [(0, (4, 0)), (1, (0, 2)), (2, (0, 0)), (3, (0, x3))] [] jpA_248 0 0 (fun k v hsN => k = 0 ∧ v = (0, 0) ∧ hsN = [jzA_200, (100, [], ((((((((((((((jS0).set ((7 * x3).toNat) 0)).set ((7 * x3 + 1).toNat) 0)).set ((7 * x3 + 2).toNat) 0)).set ((7 * x3 + 3).toNat) 0)).set ((7 * x3 + 4).toNat) 0)).set ((7 * x3 + 5).toNat) 0)).set ((7 * x3 + 6).toNat) 1)), (100, [], []), jzA_196, jzA_201, jgh, jgh, (101, [], [0, 0, 0, 0, 0, 0]), jgh, jgh, jgh, jgh, jgh, jgh, jgh, jgh, (100, [], jS0), jgh, jgh, jgh, jgh, jgh, jgh, jgh]) := by
  refine jT_xaload_n (v := (4, 0)) (pcN := 1) jI_252_0 rfl rfl rfl ?_
  refine jT_xiload_n (v := (0, 2)) (pcN := 2) jI_252_1 rfl rfl rfl ?_
  refine jT_fR [] 24 (y := 238) (pcN := 5) (dC := 1) (bc1 := 0) (bc2 := 0) (c1 := 0) (c2 := 0) (as := [(0, 2)]) (asC := [(0, 2)]) (LN := [(0, (4, 0)), (1, (0, 2)), (2, (0, 0)), (3, (0, x3))]) (stN := [(4, 0)]) (hsC := []) (v := (0, 1)) (st2 := [(0, 1), (4, 0)]) (jA_238_378 (d := 0)) (by rfl) (by rfl) (by decide +kernel) (by rfl) (by rfl) (by omega) (by omega) (by omega) (by omega) rfl ?_
  refine jT_xifF (t := 19) (pcN := 8) jI_252_5 rfl (by decide +kernel) rfl rfl ?_
  refine jT_xiload_n (v := (0, x3)) (pcN := 9) jI_252_8 rfl rfl rfl ?_
  refine jT_fR [] 24 (y := 188) (pcN := 12) (dC := 1) (bc1 := 0) (bc2 := 0) (c1 := 0) (c2 := 0) (as := [(0, x3)]) (asC := [(0, x3)]) (LN := [(0, (4, 0)), (1, (0, 2)), (2, (0, 0)), (3, (0, x3))]) (stN := [(4, 0)]) (hsC := []) (v := (0, 1)) (st2 := [(0, 1), (4, 0)]) (jA_188_37 (d := 0) (by omega)) (by rfl) (by rfl) (by decide +kernel) (by rfl) (by rfl) (by omega) (by omega) (by omega) (by omega) rfl ?_
  refine jT_xifF (t := 19) (pcN := 15) jI_252_12 rfl (by decide +kernel) rfl rfl ?_
  refine jT_xiconst (k := 1) (pcN := 16) jI_252_15 rfl ?_
  refine jT_xgoto (pcN := 20) jI_252_16 rfl ?_
  refine jT_fR [0, 1, 2, 3, 4, 5, 6, 7, 8, 9, 10, 11, 12, 13, 14, 15] 24 (y := 190) (pcN := 23) (dC := 1) (bc1 := 0) (bc2 := 0) (c1 := 0) (c2 := 0) (as := [(4, 0), (0, 1)]) (asC := [(4, 0), (0, 1)]) (LN := [(0, (4, 0)), (1, (0, 2)), (2, (0, 0)), (3, (0, x3))]) (stN := []) (hsC := jpA_22) (v := (0, 0)) (st2 := [(0, 0)]) (jA_190_39 (d := 0)) (by rfl) (by rfl) (by decide +kernel) (by rfl) (by rfl) (by omega) (by omega) (by omega) (by omega) rfl ?_
  refine jT_xifF (t := 45) (pcN := 26) jI_252_23 rfl (by decide +kernel) rfl rfl ?_
  refine jT_xaload_n (v := (4, 0)) (pcN := 27) jI_252_26 rfl rfl rfl ?_
  refine jT_xiload_n (v := (0, 0)) (pcN := 28) jI_252_27 rfl rfl rfl ?_
  refine jT_xi2l (x := 0) (z := 0) (pcN := 29) jI_252_28 rfl (by decide +kernel) rfl ?_
  refine jT_adv 2 (pcN := 35) (LN := [(0, (4, 0)), (1, (0, 2)), (2, (0, 0)), (3, (0, x3))]) (stN := [(1, 200), (1, (-200)), (1, 0), (4, 0)]) (hsN := jpA_248) (c1 := 0) (s1 := 0) (c2 := 0) (s2 := 0) (by exact rfl) ?_ (by omega) (by omega)
  refine jT_fR [] 24 (y := 189) (pcN := 38) (dC := 0) (bc1 := 0) (bc2 := 0) (c1 := 0) (c2 := 0) (as := [(1, 0), (1, (-200)), (1, 200)]) (asC := [(1, 0), (1, (-200)), (1, 200)]) (LN := [(0, (4, 0)), (1, (0, 2)), (2, (0, 0)), (3, (0, x3))]) (stN := [(4, 0)]) (hsC := []) (v := (0, 1)) (st2 := [(0, 1), (4, 0)]) (jA_189_564 (d := 0)) (by rfl) (by rfl) (by decide +kernel) (by rfl) (by rfl) (by omega) (by omega) (by omega) (by omega) rfl ?_
  refine jT_xiconst (k := 2) (pcN := 39) jI_252_38 rfl ?_
  refine jT_fR [0] 24 (y := 191) (pcN := 42) (dC := 0) (bc1 := 0) (bc2 := 0) (c1 := 0) (c2 := 0) (as := [(4, 0), (0, 1), (0, 2)]) (asC := [(4, 0), (0, 1), (0, 2)]) (LN := [(0, (4, 0)), (1, (0, 2)), (2, (0, 0)), (3, (0, x3))]) (stN := []) (hsC := [jgh]) (v := (0, 0)) (st2 := [(0, 0)]) (jA_191_49 (d := 0)) (by rfl) (by rfl) (by decide +kernel) (by rfl) (by rfl) (by omega) (by omega) (by omega) (by omega) rfl ?_
  refine jT_xifT (pcN := 47) jI_252_42 rfl (by decide +kernel) rfl ?_
  refine jT_xiload_n (v := (0, 0)) (pcN := 48) jI_252_47 rfl rfl rfl ?_
  refine jT_xaload_n (v := (4, 0)) (pcN := 49) jI_252_48 rfl rfl rfl ?_
  refine jT_xiload_n (v := (0, 2)) (pcN := 50) jI_252_49 rfl rfl rfl ?_
  refine jT_fR [0, 1, 2, 3, 4, 5, 6, 7, 8, 9, 10, 11, 12, 13, 14, 15] 24 (y := 245) (pcN := 53) (dC := 0) (bc1 := 0) (bc2 := 0) (c1 := 0) (c2 := 0) (as := [(4, 0), (0, 2)]) (asC := [(4, 0), (0, 2)]) (LN := [(0, (4, 0)), (1, (0, 2)), (2, (0, 0)), (3, (0, x3))]) (stN := [(0, 0)]) (hsC := jpA_1519) (v := (0, 1)) (st2 := [(0, 1), (0, 0)]) (jA_245_379 (d := 0)) (by rfl) (by rfl) (by decide +kernel) (by rfl) (by rfl) (by omega) (by omega) (by omega) (by omega) rfl ?_
  refine jT_fR [] 24 (y := 375) (pcN := 56) (dC := 0) (bc1 := 0) (bc2 := 0) (c1 := 0) (c2 := 0) (as := [(0, 0), (0, 1)]) (asC := [(0, 0), (0, 1)]) (LN := [(0, (4, 0)), (1, (0, 2)), (2, (0, 0)), (3, (0, x3))]) (stN := []) (hsC := []) (v := (0, 0)) (st2 := [(0, 0)]) (jA_375_560 (d := 0)) (by rfl) (by rfl) (by decide +kernel) (by rfl) (by rfl) (by omega) (by omega) (by omega) (by omega) rfl ?_
  refine jT_xistore (v := (0, 0)) (LN := [(4, (0, 0)), (0, (4, 0)), (1, (0, 2)), (2, (0, 0)), (3, (0, x3))]) (pcN := 58) jI_252_56 rfl rfl rfl rfl ?_
  refine jT_xaload_n (v := (4, 0)) (pcN := 59) jI_252_58 rfl rfl rfl ?_
  refine jT_xaload_n (v := (4, 0)) (pcN := 60) jI_252_59 rfl rfl rfl ?_
  refine jT_xgetf (a := 0) (t := 1) (ci := 14) (fi := 1) (c := jzA_21) (v := (4, 1)) (pcN := 63) jI_252_60 rfl rfl rfl rfl rfl rfl rfl ?_
  refine jT_xiload_n (v := (0, 2)) (pcN := 64) jI_252_63 rfl rfl rfl ?_
  refine jT_xiload (v := (0, 0)) (pcN := 66) jI_252_64 rfl rfl rfl ?_
  refine jT_fR [] 24 (y := 242) (pcN := 69) (dC := 0) (bc1 := 0) (bc2 := 0) (c1 := 0) (c2 := 0) (as := [(0, 2), (0, 0)]) (asC := [(0, 2), (0, 0)]) (LN := [(4, (0, 0)), (0, (4, 0)), (1, (0, 2)), (2, (0, 0)), (3, (0, x3))]) (stN := [(4, 1), (4, 0)]) (hsC := []) (v := (0, 619)) (st2 := [(0, 619), (4, 1), (4, 0)]) (jA_242_380 (d := 0)) (by rfl) (by rfl) (by decide +kernel) (by rfl) (by rfl) (by omega) (by omega) (by omega) (by omega) rfl ?_
  refine jT_fR [0, 1, 2, 3, 4, 5, 6, 7, 8, 9, 10, 11, 12, 13, 14, 15] 24 (y := 203) (pcN := 72) (dC := 0) (bc1 := 0) (bc2 := 0) (c1 := 0) (c2 := 0) (as := [(4, 0), (4, 1), (0, 619)]) (asC := [(4, 0), (4, 1), (0, 619)]) (LN := [(4, (0, 0)), (0, (4, 0)), (1, (0, 2)), (2, (0, 0)), (3, (0, x3))]) (stN := []) (hsC := jpA_130) (v := (9, 0)) (st2 := []) (jA_203_383 (d := 0)) (by rfl) (by rfl) (by decide +kernel) (by rfl) (by rfl) (by omega) (by omega) (by omega) (by omega) rfl ?_
  refine jT_xaload_n (v := (4, 0)) (pcN := 73) jI_252_72 rfl rfl rfl ?_
  refine jT_xgetf (a := 0) (t := 1) (ci := 14) (fi := 9) (c := jzA_21) (v := (4, 7)) (pcN := 76) jI_252_73 rfl rfl rfl rfl rfl rfl rfl ?_
  refine jT_xiconst (k := 0) (pcN := 77) jI_252_76 rfl ?_
  refine jT_adv 1 (pcN := 78) (LN := [(4, (0, 0)), (0, (4, 0)), (1, (0, 2)), (2, (0, 0)), (3, (0, x3))]) (stN := [(0, 0), (4, 7), (0, 0), (4, 7)]) (hsN := jpA_248) (c1 := 0) (s1 := 0) (c2 := 0) (s2 := 0) (by exact rfl) ?_ (by omega) (by omega)
  refine jT_lald (x := 0) (a := 7) (j := 0) (fs := []) (X := [0, 0, 0, 0, 0, 0]) jI_252_78 rfl rfl rfl rfl ?_
  refine jT_eq (LN := [(4, (0, 0)), (0, (4, 0)), (1, (0, 2)), (2, (0, 0)), (3, (0, x3))]) (stN := [(1, 0), (0, 0), (4, 7)]) (hsN := jpA_248) rfl rfl rfl ?_
  refine jT_xaload_n (v := (4, 0)) (pcN := 80) jI_252_79 rfl rfl rfl ?_
  refine jT_xgetf (a := 0) (t := 1) (ci := 14) (fi := 10) (c := jzA_21) (v := (1, 1)) (pcN := 83) jI_252_80 rfl rfl rfl rfl rfl rfl rfl ?_
  refine jT_xiload_n (v := (0, 0)) (pcN := 84) jI_252_83 rfl rfl rfl ?_
  refine jT_xaload_n (v := (4, 0)) (pcN := 85) jI_252_84 rfl rfl rfl ?_
  refine jT_xiload_n (v := (0, 2)) (pcN := 86) jI_252_85 rfl rfl rfl ?_
  refine jT_fR [0, 1, 2, 3, 4, 5, 6, 7, 8, 9, 10, 11, 12, 13, 14, 15] 24 (y := 245) (pcN := 89) (dC := 0) (bc1 := 0) (bc2 := 0) (c1 := 0) (c2 := 0) (as := [(4, 0), (0, 2)]) (asC := [(4, 0), (0, 2)]) (LN := [(4, (0, 0)), (0, (4, 0)), (1, (0, 2)), (2, (0, 0)), (3, (0, x3))]) (stN := [(0, 0), (1, 1), (1, 0), (0, 0), (4, 7)]) (hsC := jpA_1519) (v := (0, 1)) (st2 := [(0, 1), (0, 0), (1, 1), (1, 0), (0, 0), (4, 7)]) (jA_245_379 (d := 0)) (by rfl) (by rfl) (by decide +kernel) (by rfl) (by rfl) (by omega) (by omega) (by omega) (by omega) rfl ?_
  refine jT_fR [] 24 (y := 376) (pcN := 92) (dC := 0) (bc1 := 0) (bc2 := 0) (c1 := 0) (c2 := 0) (as := [(0, 0), (0, 1)]) (asC := [(0, 0), (0, 1)]) (LN := [(4, (0, 0)), (0, (4, 0)), (1, (0, 2)), (2, (0, 0)), (3, (0, x3))]) (stN := [(1, 1), (1, 0), (0, 0), (4, 7)]) (hsC := []) (v := (0, 0)) (st2 := [(0, 0), (1, 1), (1, 0), (0, 0), (4, 7)]) (jA_376_561 (d := 0)) (by rfl) (by rfl) (by decide +kernel) (by rfl) (by rfl) (by omega) (by omega) (by omega) (by omega) rfl ?_
  refine jT_xi2l (x := 0) (z := 0) (pcN := 93) jI_252_92 rfl (by decide +kernel) rfl ?_
  refine jT_xlmul (x := 1) (y := 0) (z := 0) (pcN := 94) jI_252_93 rfl (by decide) rfl ?_
  refine jT_xladd (x := 0) (y := 0) (z := 0) (pcN := 95) jI_252_94 rfl (by decide) rfl ?_
  refine jT_adv 1 (pcN := 96) (LN := [(4, (0, 0)), (0, (4, 0)), (1, (0, 2)), (2, (0, 0)), (3, (0, x3))]) (stN := []) (hsN := jpA_248) (c1 := 0) (s1 := 0) (c2 := 0) (s2 := 0) (by exact rfl) ?_ (by omega) (by omega)
  refine jT_xaload_n (v := (4, 0)) (pcN := 97) jI_252_96 rfl rfl rfl ?_
  refine jT_xaload_n (v := (4, 0)) (pcN := 98) jI_252_97 rfl rfl rfl ?_
  refine jT_fR [0, 1, 2, 3, 4, 5, 6, 7, 8, 9, 10, 11, 12, 13, 14, 15] 24 (y := 205) (pcN := 101) (dC := 1) (bc1 := 0) (bc2 := 0) (c1 := 0) (c2 := 0) (as := [(4, 0)]) (asC := [(4, 0)]) (LN := [(4, (0, 0)), (0, (4, 0)), (1, (0, 2)), (2, (0, 0)), (3, (0, x3))]) (stN := [(4, 0)]) (hsC := jpA_147) (v := (0, 1)) (st2 := [(0, 1), (4, 0)]) (jA_205_48 (d := 0)) (by rfl) (by rfl) (by decide +kernel) (by rfl) (by rfl) (by omega) (by omega) (by omega) (by omega) rfl ?_
  refine jT_xiconst (k := 3) (pcN := 102) jI_252_101 rfl ?_
  refine jT_fR [0] 24 (y := 191) (pcN := 105) (dC := 0) (bc1 := 0) (bc2 := 0) (c1 := 0) (c2 := 0) (as := [(4, 0), (0, 1), (0, 3)]) (asC := [(4, 0), (0, 1), (0, 3)]) (LN := [(4, (0, 0)), (0, (4, 0)), (1, (0, 2)), (2, (0, 0)), (3, (0, x3))]) (stN := []) (hsC := [jgh]) (v := (0, 0)) (st2 := [(0, 0)]) (jA_191_117 (d := 0)) (by rfl) (by rfl) (by decide +kernel) (by rfl) (by rfl) (by omega) (by omega) (by omega) (by omega) rfl ?_
  refine jT_xifT (pcN := 110) jI_252_105 rfl (by decide +kernel) rfl ?_
  refine jT_xaload_n (v := (4, 0)) (pcN := 111) jI_252_110 rfl rfl rfl ?_
  refine jT_fB [0, 1, 2, 3, 4, 5, 6, 7, 8, 9, 10, 11, 12, 13, 14, 15, 16, 17, 18, 19, 20, 21, 22, 23] 24 (y := 195) (pcN := 114) (dC := 0) (bc1 := 0) (bc2 := 0) (c1 := 0) (c2 := 0) (as := [(4, 0)]) (asC := [(4, 0)]) (LN := [(4, (0, 0)), (0, (4, 0)), (1, (0, 2)), (2, (0, 0)), (3, (0, x3))]) (stN := []) (hsC := jpA_198) (hsD := jpA_202) (v := (9, 0)) (st2 := []) (hs2 := jpA_255) (jA_195_50 (d := 0)) (by rfl) (by rfl) (by decide +kernel) (by rfl) (by rfl) (by omega) (by omega) (by omega) (by omega) rfl (by decide +kernel) ?_
  refine jT_xaload_n (v := (4, 0)) (pcN := 115) jI_252_114 rfl rfl rfl ?_
  refine jT_xiload_n (v := (0, x3)) (pcN := 116) jI_252_115 rfl rfl rfl ?_
  refine jT_fB [0, 1, 2, 3, 4, 5, 6, 7, 8, 9, 10, 11, 12, 13, 14, 15] 24 (y := 196) (pcN := 119) (dC := 1) (bc1 := 0) (bc2 := 0) (c1 := 0) (c2 := 0) (as := [(4, 0), (0, x3)]) (asC := [(4, 0), (0, x3)]) (LN := [(4, (0, 0)), (0, (4, 0)), (1, (0, 2)), (2, (0, 0)), (3, (0, x3))]) (stN := []) (hsC := jpA_216) (hsD := [jzA_200, (100, [], ((((((((((((((jS0).set ((7 * x3).toNat) 0)).set ((7 * x3 + 1).toNat) 0)).set ((7 * x3 + 2).toNat) 0)).set ((7 * x3 + 3).toNat) 0)).set ((7 * x3 + 4).toNat) 0)).set ((7 * x3 + 5).toNat) 0)).set ((7 * x3 + 6).toNat) 1)), jgh, jgh, jgh, jgh, jgh, (101, [], [0, 0, 0, 0, 0, 0]), jgh, jgh, jgh, jgh, jgh, jgh, jgh, jgh]) (v := (0, 1)) (st2 := [(0, 1)]) (hs2 := [jzA_200, (100, [], ((((((((((((((jS0).set ((7 * x3).toNat) 0)).set ((7 * x3 + 1).toNat) 0)).set ((7 * x3 + 2).toNat) 0)).set ((7 * x3 + 3).toNat) 0)).set ((7 * x3 + 4).toNat) 0)).set ((7 * x3 + 5).toNat) 0)).set ((7 * x3 + 6).toNat) 1)), (100, [], []), jzA_196, jzA_201, jgh, jgh, (101, [], [0, 0, 0, 0, 0, 0]), jgh, jgh, jgh, jgh, jgh, jgh, jgh, jgh, (100, [], jS0), jgh, jgh, jgh, jgh, jgh, jgh, jgh]) (jA_196_194 (d := 0) (by omega)) (by rfl) (by rfl) (by decide +kernel) (by rfl) (by rfl) (by omega) (by omega) (by omega) (by omega) rfl rfl ?_
  refine jT_adv 1 (pcN := 120) (LN := [(4, (0, 0)), (0, (4, 0)), (1, (0, 2)), (2, (0, 0)), (3, (0, x3))]) (stN := []) (hsN := [jzA_200, (100, [], ((((((((((((((jS0).set ((7 * x3).toNat) 0)).set ((7 * x3 + 1).toNat) 0)).set ((7 * x3 + 2).toNat) 0)).set ((7 * x3 + 3).toNat) 0)).set ((7 * x3 + 4).toNat) 0)).set ((7 * x3 + 5).toNat) 0)).set ((7 * x3 + 6).toNat) 1)), (100, [], []), jzA_196, jzA_201, jgh, jgh, (101, [], [0, 0, 0, 0, 0, 0]), jgh, jgh, jgh, jgh, jgh, jgh, jgh, jgh, (100, [], jS0), jgh, jgh, jgh, jgh, jgh, jgh, jgh]) (c1 := 0) (s1 := 0) (c2 := 0) (s2 := 0) (by exact rfl) ?_ (by omega) (by omega)
  refine jT_xiload (v := (0, 0)) (pcN := 122) jI_252_120 rfl rfl rfl ?_
  exact jT_ret rfl (by decide) (by show 24 ≤ 24; decide) (by omega) (by omega) ⟨rfl, rfl, rfl⟩
theorem jA_132_594 {xs : List Int} {d : Nat} {x2 x3 : Int} (h_x2 : 1 ≤ x2 ∧ x2 ≤ 200) (h_x3 : 0 ≤ x3 ∧ x3 ≤ 7) : jT xs (d + 3) 132 24 0 [(0, (4, 0)), (1, (0, 2)), (2, (0, x2)), (3, (0, x3))] [] jpA_2289 4 21 (fun k v hsN => k = 0 ∧ v = (0, 0) ∧ hsN = [jzA_2217, jgh, jgh, jgh, jgh, jgh, jgh, jgh, jgh, jgh, jzA_102, jzA_88, jzA_89, (117, [], [18, 19, 20, 21]), jgh, jgh, jgh, (4, [(4, 22), (1, 1)], []), jgh, jgh, (7, [(4, 23), (4, (-1)), (4, (-1))], []), jgh, (101, [], [0, 0, 0, 0, 0, 0]), (114, [], [17]), (101, [], [x2, 0, 0, 0, 0, 0]), (4, [(4, 24), (1, 1)], []), jgh, jzA_2216]) := by
  refine jT_xaload_n (v := (4, 0)) (pcN := 1) jI_132_0 rfl rfl rfl ?_
  refine jT_xiload_n (v := (0, 2)) (pcN := 2) jI_132_1 rfl rfl rfl ?_
  refine jT_xiconst (k := 4) (pcN := 3) jI_132_2 rfl ?_
  refine jT_fR [0] 24 (y := 115) (pcN := 6) (dC := 0) (bc1 := 0) (bc2 := 0) (c1 := 4) (c2 := 21) (as := [(4, 0), (0, 2), (0, 4)]) (asC := [(4, 0), (0, 2), (0, 4)]) (LN := [(0, (4, 0)), (1, (0, 2)), (2, (0, x2)), (3, (0, x3))]) (stN := []) (hsC := [jgh]) (v := (9, 0)) (st2 := []) (jA_115_372 (d := 0)) (by rfl) (by rfl) (by decide +kernel) (by rfl) (by rfl) (by omega) (by omega) (by omega) (by omega) rfl ?_
  refine jT_xaload_n (v := (4, 0)) (pcN := 7) jI_132_6 rfl rfl rfl ?_
  refine jT_xiload_n (v := (0, x3)) (pcN := 8) jI_132_7 rfl rfl rfl ?_
  refine jT_xbipush (k := 8) (pcN := 10) jI_132_8 (by decide) rfl ?_
  refine jT_fR [0] 24 (y := 115) (pcN := 13) (dC := 0) (bc1 := 0) (bc2 := 0) (c1 := 4) (c2 := 21) (as := [(4, 0), (0, x3), (0, 8)]) (asC := [(4, 0), (0, x3), (0, 8)]) (LN := [(0, (4, 0)), (1, (0, 2)), (2, (0, x2)), (3, (0, x3))]) (stN := []) (hsC := [jgh]) (v := (9, 0)) (st2 := []) (jA_115_23 (d := 0) (by omega)) (by rfl) (by rfl) (by decide +kernel) (by rfl) (by rfl) (by omega) (by omega) (by omega) (by omega) rfl ?_
  refine jT_xaload_n (v := (4, 0)) (pcN := 14) jI_132_13 rfl rfl rfl ?_
  refine jT_xiload_n (v := (0, x2)) (pcN := 15) jI_132_14 rfl rfl rfl ?_
  refine jT_xsipush (k := (-200)) (pcN := 18) jI_132_15 (by decide) rfl ?_
  refine jT_xsipush (k := 200) (pcN := 21) jI_132_18 (by decide) rfl ?_
  refine jT_fR [0] 24 (y := 116) (pcN := 24) (dC := 0) (bc1 := 0) (bc2 := 0) (c1 := 4) (c2 := 21) (as := [(4, 0), (0, x2), (0, (-200)), (0, 200)]) (asC := [(4, 0), (0, x2), (0, (-200)), (0, 200)]) (LN := [(0, (4, 0)), (1, (0, 2)), (2, (0, x2)), (3, (0, x3))]) (stN := []) (hsC := [jgh]) (v := (9, 0)) (st2 := []) (jA_116_566 (d := 0) (by omega)) (by rfl) (by rfl) (by decide +kernel) (by rfl) (by rfl) (by omega) (by omega) (by omega) (by omega) rfl ?_
  refine jT_xaload_n (v := (4, 0)) (pcN := 25) jI_132_24 rfl rfl rfl ?_
  refine jT_xgetf (a := 0) (t := 1) (ci := 13) (fi := 11) (c := jzA_5) (v := (4, 11)) (pcN := 28) jI_132_25 rfl rfl rfl rfl rfl rfl rfl ?_
  refine jT_xiload_n (v := (0, 2)) (pcN := 29) jI_132_28 rfl rfl rfl ?_
  refine jT_fR [11, 12, 13, 14, 15, 16, 18, 19, 20, 21] 24 (y := 56) (pcN := 32) (dC := 0) (bc1 := 0) (bc2 := 0) (c1 := 4) (c2 := 21) (as := [(4, 11), (0, 2)]) (asC := [(4, 0), (0, 2)]) (LN := [(0, (4, 0)), (1, (0, 2)), (2, (0, x2)), (3, (0, x3))]) (stN := []) (hsC := jpA_1446) (v := (4, 8)) (st2 := [(4, 20)]) (jA_56_373 (d := 0)) (by rfl) (by rfl) (by decide +kernel) (by rfl) (by rfl) (by omega) (by omega) (by omega) (by omega) rfl ?_
  refine jT_xastore (v := (4, 20)) (LN := [(4, (4, 20)), (0, (4, 0)), (1, (0, 2)), (2, (0, x2)), (3, (0, x3))]) (pcN := 34) jI_132_32 rfl rfl rfl rfl ?_
  refine jT_xiconst (k := 1) (pcN := 35) jI_132_34 rfl ?_
  refine jT_xaload (v := (4, 20)) (pcN := 37) jI_132_35 rfl rfl rfl ?_
  refine jT_fR [20, 23, 17] 24 (y := 29) (pcN := 40) (dC := 0) (bc1 := 0) (bc2 := 0) (c1 := 4) (c2 := 21) (as := [(4, 20)]) (asC := [(4, 0)]) (LN := [(4, (4, 20)), (0, (4, 0)), (1, (0, 2)), (2, (0, x2)), (3, (0, x3))]) (stN := [(0, 1)]) (hsC := [(7, [(4, 1), (4, (-1)), (4, (-1))], []), (114, [], [2]), jgh]) (v := (0, 1)) (st2 := [(0, 1), (0, 1)]) (jA_29_416 (d := 0)) (by rfl) (by rfl) (by decide +kernel) (by rfl) (by rfl) (by omega) (by omega) (by omega) (by omega) rfl ?_
  refine jT_mm0 (x := 1) (y := 1) (z := 1) (by rfl) (by rfl) (by rfl) (by rfl) (jw_idd (by omega) (by omega)) (jw_idd (by omega) (by omega)) (by rw [decide_eq_false (show ¬ ((1 : Int) < 1) by omega)]; rfl) ?_
  refine jT_xistore (v := (0, 1)) (LN := [(5, (0, 1)), (4, (4, 20)), (0, (4, 0)), (1, (0, 2)), (2, (0, x2)), (3, (0, x3))]) (pcN := 45) jI_132_43 rfl rfl rfl rfl ?_
  refine jT_xiload_n (v := (0, x2)) (pcN := 46) jI_132_45 rfl rfl rfl ?_
  refine jT_xiload (v := (0, 1)) (pcN := 48) jI_132_46 rfl rfl rfl ?_
  refine jT_fR [] 24 (y := 375) (pcN := 51) (dC := 0) (bc1 := 0) (bc2 := 0) (c1 := 4) (c2 := 21) (as := [(0, x2), (0, 1)]) (asC := [(0, x2), (0, 1)]) (LN := [(5, (0, 1)), (4, (4, 20)), (0, (4, 0)), (1, (0, 2)), (2, (0, x2)), (3, (0, x3))]) (stN := []) (hsC := []) (v := (0, x2 % 1)) (st2 := [(0, x2 % 1)]) (jT_fmI1 (d := 0) (x := x2) (by omega)) (by rfl) (by rfl) (by decide +kernel) (by rfl) (by rfl) (by omega) (by omega) (by omega) (by omega) rfl ?_
  refine jT_eq (LN := [(5, (0, 1)), (4, (4, 20)), (0, (4, 0)), (1, (0, 2)), (2, (0, x2)), (3, (0, x3))]) (stN := [(0, 0)]) (hsN := [jzA_5, jgh, jgh, jgh, jgh, jgh, jgh, jgh, jgh, jgh, jzA_79, jzA_88, jzA_89, (117, [], [18, 19, 20, 21]), jgh, jgh, jgh, (4, [(4, 22), (1, 1)], []), jgh, jgh, (7, [(4, 23), (4, (-1)), (4, (-1))], []), jgh, (101, [], [0, 0, 0, 0, 0, 0]), (114, [], [17])]) (rfl) (by simp only [List.cons.injEq, Prod.mk.injEq, and_true, true_and] <;> ((try unfold jw); (try unfold jwl); omega)) (rfl) ?_
  refine jT_xistore (v := (0, 0)) (LN := [(6, (0, 0)), (5, (0, 1)), (4, (4, 20)), (0, (4, 0)), (1, (0, 2)), (2, (0, x2)), (3, (0, x3))]) (pcN := 53) jI_132_51 rfl rfl rfl rfl ?_
  refine jT_xaload (v := (4, 20)) (pcN := 55) jI_132_53 rfl rfl rfl ?_
  refine jT_xiload (v := (0, 0)) (pcN := 57) jI_132_55 rfl rfl rfl ?_
  refine jT_fR [20, 23, 17] 24 (y := 30) (pcN := 60) (dC := 0) (bc1 := 0) (bc2 := 0) (c1 := 4) (c2 := 21) (as := [(4, 20), (0, 0)]) (asC := [(4, 0), (0, 0)]) (LN := [(6, (0, 0)), (5, (0, 1)), (4, (4, 20)), (0, (4, 0)), (1, (0, 2)), (2, (0, x2)), (3, (0, x3))]) (stN := []) (hsC := [(7, [(4, 1), (4, (-1)), (4, (-1))], []), (114, [], [2]), jgh]) (v := (4, 2)) (st2 := [(4, 17)]) (jA_30_538 (d := 0)) (by rfl) (by rfl) (by decide +kernel) (by rfl) (by rfl) (by omega) (by omega) (by omega) (by omega) rfl ?_
  refine jT_xlconst (z := 1) (pcN := 61) jI_132_60 rfl rfl ?_
  refine jT_xlconst (z := 1) (pcN := 62) jI_132_61 rfl rfl ?_
  refine jT_xiload_n (v := (0, x2)) (pcN := 63) jI_132_62 rfl rfl rfl ?_
  refine jT_xiload (v := (0, 1)) (pcN := 65) jI_132_63 rfl rfl rfl ?_
  refine jT_fR [] 24 (y := 376) (pcN := 68) (dC := 0) (bc1 := 0) (bc2 := 0) (c1 := 4) (c2 := 21) (as := [(0, x2), (0, 1)]) (asC := [(0, x2), (0, 1)]) (LN := [(6, (0, 0)), (5, (0, 1)), (4, (4, 20)), (0, (4, 0)), (1, (0, 2)), (2, (0, x2)), (3, (0, x3))]) (stN := [(1, 1), (1, 1), (4, 17)]) (hsC := []) (v := (0, x2 / 1)) (st2 := [(0, x2 / 1), (1, 1), (1, 1), (4, 17)]) (jT_fdI1 (d := 0) (x := x2) (by omega)) (by rfl) (by rfl) (by decide +kernel) (by rfl) (by rfl) (by omega) (by omega) (by omega) (by omega) rfl ?_
  refine jT_eq (LN := [(6, (0, 0)), (5, (0, 1)), (4, (4, 20)), (0, (4, 0)), (1, (0, 2)), (2, (0, x2)), (3, (0, x3))]) (stN := [(0, x2), (1, 1), (1, 1), (4, 17)]) (hsN := [jzA_5, jgh, jgh, jgh, jgh, jgh, jgh, jgh, jgh, jgh, jzA_79, jzA_88, jzA_89, (117, [], [18, 19, 20, 21]), jgh, jgh, jgh, (4, [(4, 22), (1, 1)], []), jgh, jgh, (7, [(4, 23), (4, (-1)), (4, (-1))], []), jgh, (101, [], [0, 0, 0, 0, 0, 0]), (114, [], [17])]) (rfl) (by simp only [List.cons.injEq, Prod.mk.injEq, and_true, true_and] <;> ((try unfold jw); (try unfold jwl); omega)) (rfl) ?_
  refine jT_xi2l (x := x2) (z := x2) (pcN := 69) jI_132_68 rfl (jw_idd (by omega) (by omega)) rfl ?_
  refine jT_fA [17, 22] 24 (y := 10) (pcN := 72) (dC := 2) (bc1 := 2) (bc2 := 8) (c1 := 2) (c2 := 13) (as := [(4, 17), (1, 1), (1, 1), (1, x2)]) (asC := [(4, 0), (1, 1), (1, 1), (1, x2)]) (LN := [(6, (0, 0)), (5, (0, 1)), (4, (4, 20)), (0, (4, 0)), (1, (0, 2)), (2, (0, x2)), (3, (0, x3))]) (stN := []) (hsC := [(4, [(4, 1), (1, 1)], []), (101, [], [0, 0, 0, 0, 0, 0])]) (ex := [(101, [], [x2, 0, 0, 0, 0, 0]), (4, [(4, 2), (1, 1)], [])]) (v := (4, 3)) (st2 := [(4, 25)]) (hs2 := [jzA_5, jgh, jgh, jgh, jgh, jgh, jgh, jgh, jgh, jgh, jzA_79, jzA_88, jzA_89, (117, [], [18, 19, 20, 21]), jgh, jgh, jgh, (4, [(4, 22), (1, 1)], []), jgh, jgh, (7, [(4, 23), (4, (-1)), (4, (-1))], []), jgh, (101, [], [0, 0, 0, 0, 0, 0]), (114, [], [17]), (101, [], [x2, 0, 0, 0, 0, 0]), (4, [(4, 24), (1, 1)], [])]) (jA_10_569 (d := 0) (by omega)) (by rfl) (by rfl) (by decide +kernel) (by rfl) (by rfl) (by omega) (by omega) (by omega) (by omega) rfl rfl ?_
  refine jT_xastore (v := (4, 25)) (LN := [(7, (4, 25)), (6, (0, 0)), (5, (0, 1)), (4, (4, 20)), (0, (4, 0)), (1, (0, 2)), (2, (0, x2)), (3, (0, x3))]) (pcN := 74) jI_132_72 rfl rfl rfl rfl ?_
  refine jT_xaload_n (v := (4, 0)) (pcN := 75) jI_132_74 rfl rfl rfl ?_
  refine jT_xaload (v := (4, 25)) (pcN := 77) jI_132_75 rfl rfl rfl ?_
  refine jT_callA [0, 25, 24] (y := 117) (pcN := 80) (dC := 2) (bc1 := 0) (bc2 := 0) (c1 := 2) (c2 := 13) (as := [(4, 0), (4, 25)]) (asC := [(4, 0), (4, 1)]) (LN := [(7, (4, 25)), (6, (0, 0)), (5, (0, 1)), (4, (4, 20)), (0, (4, 0)), (1, (0, 2)), (2, (0, x2)), (3, (0, x3))]) (stN := []) (hsC := [jgh, (4, [(4, 2), (1, 1)], []), (101, [], [x2, 0, 0, 0, 0, 0])]) (ex := []) (v := (9, 0)) (st2 := []) (hs2 := [jzA_5, jgh, jgh, jgh, jgh, jgh, jgh, jgh, jgh, jgh, jzA_79, jzA_88, jzA_89, (117, [], [18, 19, 20, 21]), jgh, jgh, jgh, (4, [(4, 22), (1, 1)], []), jgh, jgh, (7, [(4, 23), (4, (-1)), (4, (-1))], []), jgh, (101, [], [0, 0, 0, 0, 0, 0]), (114, [], [17]), (101, [], [x2, 0, 0, 0, 0, 0]), (4, [(4, 24), (1, 1)], [])]) (jA_117_572 (d := 0) (by omega)) (by rfl) (by rfl) (by rfl) (by rfl) ⟨rfl, rfl, rfl, trivial⟩ (by rfl) (by rfl) (by omega) (by show 24 ≤ 26; omega) (by omega) (by omega) rfl rfl ?_
  refine jT_xaload_n (v := (4, 0)) (pcN := 81) jI_132_80 rfl rfl rfl ?_
  refine jT_xaload_n (v := (4, 0)) (pcN := 82) jI_132_81 rfl rfl rfl ?_
  refine jT_xgetf (a := 0) (t := 1) (ci := 13) (fi := 11) (c := jzA_5) (v := (4, 11)) (pcN := 85) jI_132_82 rfl rfl rfl rfl rfl rfl rfl ?_
  refine jT_xiload_n (v := (0, x3)) (pcN := 86) jI_132_85 rfl rfl rfl ?_
  refine jT_xaload (v := (4, 25)) (pcN := 88) jI_132_86 rfl rfl rfl ?_
  refine jT_callA [11, 25, 12, 13, 14, 15, 16, 24, 17] (y := 58) (pcN := 91) (dC := 1) (bc1 := 2) (bc2 := 13) (c1 := 0) (c2 := 0) (as := [(4, 11), (0, x3), (4, 25)]) (asC := [(4, 0), (0, x3), (4, 1)]) (LN := [(7, (4, 25)), (6, (0, 0)), (5, (0, 1)), (4, (4, 20)), (0, (4, 0)), (1, (0, 2)), (2, (0, x2)), (3, (0, x3))]) (stN := [(4, 0)]) (hsC := jpA_74) (ex := [jgh, jzA_72]) (v := (4, 10)) (st2 := [(4, 27), (4, 0)]) (hs2 := [jzA_5, jgh, jgh, jgh, jgh, jgh, jgh, jgh, jgh, jgh, jzA_79, jzA_88, jzA_89, (117, [], [18, 19, 20, 21]), jgh, jgh, jgh, (4, [(4, 22), (1, 1)], []), jgh, jgh, (7, [(4, 23), (4, (-1)), (4, (-1))], []), jgh, (101, [], [0, 0, 0, 0, 0, 0]), (114, [], [17]), (101, [], [x2, 0, 0, 0, 0, 0]), (4, [(4, 24), (1, 1)], []), jgh, jzA_2216]) (jA_58_181 (d := 0) (by omega)) (by rfl) (by rfl) (by rfl) (by rfl) ⟨rfl, rfl, rfl, rfl, rfl, rfl, rfl, rfl, rfl, trivial⟩ (by rfl) (by rfl) (by omega) (by show 24 ≤ 26; omega) (by omega) (by omega) rfl rfl ?_
  refine jT_callB [0, 27, 1, 2, 3, 4, 5, 6, 7, 8, 9, 10, 11, 12, 13, 14, 15, 16] (y := 100) (pcN := 94) (dC := 0) (bc1 := 0) (bc2 := 0) (c1 := 0) (c2 := 0) (as := [(4, 0), (4, 27)]) (asC := [(4, 0), (4, 1)]) (LN := [(7, (4, 25)), (6, (0, 0)), (5, (0, 1)), (4, (4, 20)), (0, (4, 0)), (1, (0, 2)), (2, (0, x2)), (3, (0, x3))]) (stN := []) (hsC := jpA_80) (hsD := jpA_78) (v := (9, 0)) (st2 := []) (hs2 := [jzA_2217, jgh, jgh, jgh, jgh, jgh, jgh, jgh, jgh, jgh, jzA_102, jzA_88, jzA_89, (117, [], [18, 19, 20, 21]), jgh, jgh, jgh, (4, [(4, 22), (1, 1)], []), jgh, jgh, (7, [(4, 23), (4, (-1)), (4, (-1))], []), jgh, (101, [], [0, 0, 0, 0, 0, 0]), (114, [], [17]), (101, [], [x2, 0, 0, 0, 0, 0]), (4, [(4, 24), (1, 1)], []), jgh, jzA_2216]) (jA_100_34 (d := 0)) (by rfl) (by rfl) (by rfl) (by rfl) ⟨rfl, rfl, rfl, rfl, rfl, rfl, rfl, rfl, rfl, rfl, rfl, rfl, rfl, rfl, rfl, rfl, rfl, rfl, trivial⟩ (by rfl) (by rfl) (by omega) (by show 24 ≤ 28; omega) (by omega) (by omega) rfl rfl ?_
  refine jT_xiload (v := (0, 0)) (pcN := 96) jI_132_94 rfl rfl rfl ?_
  exact jT_ret rfl (by decide) (by show 24 ≤ 28; decide) (by omega) (by omega) ⟨rfl, rfl, rfl⟩
theorem jA_339_595 {xs : List Int} {d : Nat} {x2 x3 : Int} (h_x2 : 1 ≤ x2 ∧ x2 ≤ 200) (h_x3 : 0 ≤ x3 ∧ x3 ≤ 7) : jT xs (d + 4) 339 25 0 [(0, (4, 0)), (1, (0, 2)), (2, (0, x2)), (3, (0, x3)), (4, (4, 1))] [] jpA_2290 4 21 (fun k v hsN => k = 0 ∧ v = (0, 0) ∧ hsN = [jzA_2220, (101, [], [0]), jgh, jgh, jgh, jgh, jgh, jgh, jgh, jgh, jgh, jzA_76, jzA_77, jzA_109, (117, [], [19, 20, 21, 22]), jgh, jgh, jgh, (4, [(4, 23), (1, 1)], []), jgh, jgh, (7, [(4, 24), (4, (-1)), (4, (-1))], []), jgh, (101, [], [0, 0, 0, 0, 0, 0]), (114, [], [18]), (101, [], [x2, 0, 0, 0, 0, 0]), (4, [(4, 25), (1, 1)], []), jgh, jzA_2221]) := by
  refine jT_xaload (v := (4, 1)) (pcN := 2) jI_339_0 rfl rfl rfl ?_
  refine jT_xiconst (k := 0) (pcN := 3) jI_339_2 rfl ?_
  refine jT_xaload_n (v := (4, 0)) (pcN := 4) jI_339_3 rfl rfl rfl ?_
  refine jT_xiload_n (v := (0, 2)) (pcN := 5) jI_339_4 rfl rfl rfl ?_
  refine jT_xiload_n (v := (0, x2)) (pcN := 6) jI_339_5 rfl rfl rfl ?_
  refine jT_xiload_n (v := (0, x3)) (pcN := 7) jI_339_6 rfl rfl rfl ?_
  refine jT_fB [0, 2, 3, 4, 5, 6, 7, 8, 9, 10, 11, 12, 13, 14, 15, 16, 17, 18, 19, 20, 21, 22, 23, 24] 25 (y := 132) (pcN := 10) (dC := 3) (bc1 := 4) (bc2 := 21) (c1 := 0) (c2 := 0) (as := [(4, 0), (0, 2), (0, x2), (0, x3)]) (asC := [(4, 0), (0, 2), (0, x2), (0, x3)]) (LN := [(0, (4, 0)), (1, (0, 2)), (2, (0, x2)), (3, (0, x3)), (4, (4, 1))]) (stN := [(0, 0), (4, 1)]) (hsC := jpA_2289) (hsD := [jzA_2217, jgh, jgh, jgh, jgh, jgh, jgh, jgh, jgh, jgh, jzA_102, jzA_88, jzA_89, (117, [], [18, 19, 20, 21]), jgh, jgh, jgh, (4, [(4, 22), (1, 1)], []), jgh, jgh, (7, [(4, 23), (4, (-1)), (4, (-1))], []), jgh, (101, [], [0, 0, 0, 0, 0, 0]), (114, [], [17]), (101, [], [x2, 0, 0, 0, 0, 0]), (4, [(4, 24), (1, 1)], []), jgh, jzA_2216]) (v := (0, 0)) (st2 := [(0, 0), (0, 0), (4, 1)]) (hs2 := [jzA_2220, (101, [], [0]), jgh, jgh, jgh, jgh, jgh, jgh, jgh, jgh, jgh, jzA_76, jzA_77, jzA_109, (117, [], [19, 20, 21, 22]), jgh, jgh, jgh, (4, [(4, 23), (1, 1)], []), jgh, jgh, (7, [(4, 24), (4, (-1)), (4, (-1))], []), jgh, (101, [], [0, 0, 0, 0, 0, 0]), (114, [], [18]), (101, [], [x2, 0, 0, 0, 0, 0]), (4, [(4, 25), (1, 1)], []), jgh, jzA_2221]) (jA_132_594 (d := 0) (by omega) (by omega)) (by rfl) (by rfl) (by decide +kernel) (by rfl) (by rfl) (by omega) (by omega) (by omega) (by omega) rfl rfl ?_
  refine jT_xi2l (x := 0) (z := 0) (pcN := 11) jI_339_10 rfl (by decide +kernel) rfl ?_
  refine jT_adv 1 (pcN := 12) (LN := [(0, (4, 0)), (1, (0, 2)), (2, (0, x2)), (3, (0, x3)), (4, (4, 1))]) (stN := []) (hsN := [jzA_2220, (101, [], [0]), jgh, jgh, jgh, jgh, jgh, jgh, jgh, jgh, jgh, jzA_76, jzA_77, jzA_109, (117, [], [19, 20, 21, 22]), jgh, jgh, jgh, (4, [(4, 23), (1, 1)], []), jgh, jgh, (7, [(4, 24), (4, (-1)), (4, (-1))], []), jgh, (101, [], [0, 0, 0, 0, 0, 0]), (114, [], [18]), (101, [], [x2, 0, 0, 0, 0, 0]), (4, [(4, 25), (1, 1)], []), jgh, jzA_2221]) (c1 := 0) (s1 := 0) (c2 := 0) (s2 := 0) (by exact rfl) ?_ (by omega) (by omega)
  refine jT_xgoto (pcN := 27) jI_339_12 rfl ?_
  refine jT_xiconst (k := 0) (pcN := 28) jI_339_27 rfl ?_
  exact jT_ret rfl (by decide) (by show 25 ≤ 29; decide) (by omega) (by omega) ⟨rfl, rfl, rfl⟩
theorem jA_252_596 {xs : List Int} {d : Nat} {x2 x3 : Int} (h_x2 : 1 ≤ x2 ∧ x2 ≤ 200) (h_x3 : 0 ≤ x3 ∧ x3 ≤ 7) : jT xs (d + 2) 252 24 0 [(0, (4, 0)), (1, (0, 2)), (2, (0, x2)), (3, (0, x3))] [] jpA_248 0 0 (fun k v hsN => k = 0 ∧ v = (0, 0) ∧ hsN = [jzA_200, (100, [], ((((((((((((((jS0).set ((7 * x3).toNat) x2)).set ((7 * x3 + 1).toNat) 0)).set ((7 * x3 + 2).toNat) 0)).set ((7 * x3 + 3).toNat) 0)).set ((7 * x3 + 4).toNat) 0)).set ((7 * x3 + 5).toNat) 0)).set ((7 * x3 + 6).toNat) 1)), (100, [], []), jzA_196, jzA_201, jgh, jgh, (101, [], [x2, 0, 0, 0, 0, 0]), jgh, jgh, jgh, jgh, jgh, jgh, jgh, jgh, (100, [], jS0), jgh, jgh, jgh, jgh, jgh, jgh, jgh]) := by
  refine jT_xaload_n (v := (4, 0)) (pcN := 1) jI_252_0 rfl rfl rfl ?_
  refine jT_xiload_n (v := (0, 2)) (pcN := 2) jI_252_1 rfl rfl rfl ?_
  refine jT_fR [] 24 (y := 238) (pcN := 5) (dC := 1) (bc1 := 0) (bc2 := 0) (c1 := 0) (c2 := 0) (as := [(0, 2)]) (asC := [(0, 2)]) (LN := [(0, (4, 0)), (1, (0, 2)), (2, (0, x2)), (3, (0, x3))]) (stN := [(4, 0)]) (hsC := []) (v := (0, 1)) (st2 := [(0, 1), (4, 0)]) (jA_238_378 (d := 0)) (by rfl) (by rfl) (by decide +kernel) (by rfl) (by rfl) (by omega) (by omega) (by omega) (by omega) rfl ?_
  refine jT_xifF (t := 19) (pcN := 8) jI_252_5 rfl (by decide +kernel) rfl rfl ?_
  refine jT_xiload_n (v := (0, x3)) (pcN := 9) jI_252_8 rfl rfl rfl ?_
  refine jT_fR [] 24 (y := 188) (pcN := 12) (dC := 1) (bc1 := 0) (bc2 := 0) (c1 := 0) (c2 := 0) (as := [(0, x3)]) (asC := [(0, x3)]) (LN := [(0, (4, 0)), (1, (0, 2)), (2, (0, x2)), (3, (0, x3))]) (stN := [(4, 0)]) (hsC := []) (v := (0, 1)) (st2 := [(0, 1), (4, 0)]) (jA_188_37 (d := 0) (by omega)) (by rfl) (by rfl) (by decide +kernel) (by rfl) (by rfl) (by omega) (by omega) (by omega) (by omega) rfl ?_
  refine jT_xifF (t := 19) (pcN := 15) jI_252_12 rfl (by decide +kernel) rfl rfl ?_
  refine jT_xiconst (k := 1) (pcN := 16) jI_252_15 rfl ?_
  refine jT_xgoto (pcN := 20) jI_252_16 rfl ?_
  refine jT_fR [0, 1, 2, 3, 4, 5, 6, 7, 8, 9, 10, 11, 12, 13, 14, 15] 24 (y := 190) (pcN := 23) (dC := 1) (bc1 := 0) (bc2 := 0) (c1 := 0) (c2 := 0) (as := [(4, 0), (0, 1)]) (asC := [(4, 0), (0, 1)]) (LN := [(0, (4, 0)), (1, (0, 2)), (2, (0, x2)), (3, (0, x3))]) (stN := []) (hsC := jpA_22) (v := (0, 0)) (st2 := [(0, 0)]) (jA_190_39 (d := 0)) (by rfl) (by rfl) (by decide +kernel) (by rfl) (by rfl) (by omega) (by omega) (by omega) (by omega) rfl ?_
  refine jT_xifF (t := 45) (pcN := 26) jI_252_23 rfl (by decide +kernel) rfl rfl ?_
  refine jT_xaload_n (v := (4, 0)) (pcN := 27) jI_252_26 rfl rfl rfl ?_
  refine jT_xiload_n (v := (0, x2)) (pcN := 28) jI_252_27 rfl rfl rfl ?_
  refine jT_xi2l (x := x2) (z := x2) (pcN := 29) jI_252_28 rfl (jw_idd (by omega) (by omega)) rfl ?_
  refine jT_adv 2 (pcN := 35) (LN := [(0, (4, 0)), (1, (0, 2)), (2, (0, x2)), (3, (0, x3))]) (stN := [(1, 200), (1, (-200)), (1, x2), (4, 0)]) (hsN := jpA_248) (c1 := 0) (s1 := 0) (c2 := 0) (s2 := 0) (by exact rfl) ?_ (by omega) (by omega)
  refine jT_fR [] 24 (y := 189) (pcN := 38) (dC := 0) (bc1 := 0) (bc2 := 0) (c1 := 0) (c2 := 0) (as := [(1, x2), (1, (-200)), (1, 200)]) (asC := [(1, x2), (1, (-200)), (1, 200)]) (LN := [(0, (4, 0)), (1, (0, 2)), (2, (0, x2)), (3, (0, x3))]) (stN := [(4, 0)]) (hsC := []) (v := (0, 1)) (st2 := [(0, 1), (4, 0)]) (jT_in_ok (d := 0) (v := x2) (lo := (-200)) (hi := 200) (by omega) (by omega) (by omega) (by omega) (by omega)) (by rfl) (by rfl) (by decide +kernel) (by rfl) (by rfl) (by omega) (by omega) (by omega) (by omega) rfl ?_
  refine jT_xiconst (k := 2) (pcN := 39) jI_252_38 rfl ?_
  refine jT_fR [0] 24 (y := 191) (pcN := 42) (dC := 0) (bc1 := 0) (bc2 := 0) (c1 := 0) (c2 := 0) (as := [(4, 0), (0, 1), (0, 2)]) (asC := [(4, 0), (0, 1), (0, 2)]) (LN := [(0, (4, 0)), (1, (0, 2)), (2, (0, x2)), (3, (0, x3))]) (stN := []) (hsC := [jgh]) (v := (0, 0)) (st2 := [(0, 0)]) (jA_191_49 (d := 0)) (by rfl) (by rfl) (by decide +kernel) (by rfl) (by rfl) (by omega) (by omega) (by omega) (by omega) rfl ?_
  refine jT_xifT (pcN := 47) jI_252_42 rfl (by decide +kernel) rfl ?_
  refine jT_xiload_n (v := (0, x2)) (pcN := 48) jI_252_47 rfl rfl rfl ?_
  refine jT_xaload_n (v := (4, 0)) (pcN := 49) jI_252_48 rfl rfl rfl ?_
  refine jT_xiload_n (v := (0, 2)) (pcN := 50) jI_252_49 rfl rfl rfl ?_
  refine jT_fR [0, 1, 2, 3, 4, 5, 6, 7, 8, 9, 10, 11, 12, 13, 14, 15] 24 (y := 245) (pcN := 53) (dC := 0) (bc1 := 0) (bc2 := 0) (c1 := 0) (c2 := 0) (as := [(4, 0), (0, 2)]) (asC := [(4, 0), (0, 2)]) (LN := [(0, (4, 0)), (1, (0, 2)), (2, (0, x2)), (3, (0, x3))]) (stN := [(0, x2)]) (hsC := jpA_1519) (v := (0, 1)) (st2 := [(0, 1), (0, x2)]) (jA_245_379 (d := 0)) (by rfl) (by rfl) (by decide +kernel) (by rfl) (by rfl) (by omega) (by omega) (by omega) (by omega) rfl ?_
  refine jT_fR [] 24 (y := 375) (pcN := 56) (dC := 0) (bc1 := 0) (bc2 := 0) (c1 := 0) (c2 := 0) (as := [(0, x2), (0, 1)]) (asC := [(0, x2), (0, 1)]) (LN := [(0, (4, 0)), (1, (0, 2)), (2, (0, x2)), (3, (0, x3))]) (stN := []) (hsC := []) (v := (0, x2 % 1)) (st2 := [(0, x2 % 1)]) (jT_fmI1 (d := 0) (x := x2) (by omega)) (by rfl) (by rfl) (by decide +kernel) (by rfl) (by rfl) (by omega) (by omega) (by omega) (by omega) rfl ?_
  refine jT_eq (LN := [(0, (4, 0)), (1, (0, 2)), (2, (0, x2)), (3, (0, x3))]) (stN := [(0, 0)]) (hsN := [jzA_21, (100, [], jS0), (100, [], []), jzA_196, jzA_197, jgh, jgh, (101, [], [0, 0, 0, 0, 0, 0]), jgh, jgh, jgh, jgh, jgh, jgh, jgh, jgh, (100, [], (List.replicate 1613 0)), jgh, jgh, jgh, jgh, jgh, jgh, jgh]) (rfl) (by simp only [List.cons.injEq, Prod.mk.injEq, and_true, true_and] <;> ((try unfold jw); (try unfold jwl); omega)) (rfl) ?_
  refine jT_xistore (v := (0, 0)) (LN := [(4, (0, 0)), (0, (4, 0)), (1, (0, 2)), (2, (0, x2)), (3, (0, x3))]) (pcN := 58) jI_252_56 rfl rfl rfl rfl ?_
  refine jT_xaload_n (v := (4, 0)) (pcN := 59) jI_252_58 rfl rfl rfl ?_
  refine jT_xaload_n (v := (4, 0)) (pcN := 60) jI_252_59 rfl rfl rfl ?_
  refine jT_xgetf (a := 0) (t := 1) (ci := 14) (fi := 1) (c := jzA_21) (v := (4, 1)) (pcN := 63) jI_252_60 rfl rfl rfl rfl rfl rfl rfl ?_
  refine jT_xiload_n (v := (0, 2)) (pcN := 64) jI_252_63 rfl rfl rfl ?_
  refine jT_xiload (v := (0, 0)) (pcN := 66) jI_252_64 rfl rfl rfl ?_
  refine jT_fR [] 24 (y := 242) (pcN := 69) (dC := 0) (bc1 := 0) (bc2 := 0) (c1 := 0) (c2 := 0) (as := [(0, 2), (0, 0)]) (asC := [(0, 2), (0, 0)]) (LN := [(4, (0, 0)), (0, (4, 0)), (1, (0, 2)), (2, (0, x2)), (3, (0, x3))]) (stN := [(4, 1), (4, 0)]) (hsC := []) (v := (0, 619)) (st2 := [(0, 619), (4, 1), (4, 0)]) (jA_242_380 (d := 0)) (by rfl) (by rfl) (by decide +kernel) (by rfl) (by rfl) (by omega) (by omega) (by omega) (by omega) rfl ?_
  refine jT_fR [0, 1, 2, 3, 4, 5, 6, 7, 8, 9, 10, 11, 12, 13, 14, 15] 24 (y := 203) (pcN := 72) (dC := 0) (bc1 := 0) (bc2 := 0) (c1 := 0) (c2 := 0) (as := [(4, 0), (4, 1), (0, 619)]) (asC := [(4, 0), (4, 1), (0, 619)]) (LN := [(4, (0, 0)), (0, (4, 0)), (1, (0, 2)), (2, (0, x2)), (3, (0, x3))]) (stN := []) (hsC := jpA_130) (v := (9, 0)) (st2 := []) (jA_203_383 (d := 0)) (by rfl) (by rfl) (by decide +kernel) (by rfl) (by rfl) (by omega) (by omega) (by omega) (by omega) rfl ?_
  refine jT_xaload_n (v := (4, 0)) (pcN := 73) jI_252_72 rfl rfl rfl ?_
  refine jT_xgetf (a := 0) (t := 1) (ci := 14) (fi := 9) (c := jzA_21) (v := (4, 7)) (pcN := 76) jI_252_73 rfl rfl rfl rfl rfl rfl rfl ?_
  refine jT_xiconst (k := 0) (pcN := 77) jI_252_76 rfl ?_
  refine jT_adv 1 (pcN := 78) (LN := [(4, (0, 0)), (0, (4, 0)), (1, (0, 2)), (2, (0, x2)), (3, (0, x3))]) (stN := [(0, 0), (4, 7), (0, 0), (4, 7)]) (hsN := jpA_248) (c1 := 0) (s1 := 0) (c2 := 0) (s2 := 0) (by exact rfl) ?_ (by omega) (by omega)
  refine jT_lald (x := 0) (a := 7) (j := 0) (fs := []) (X := [0, 0, 0, 0, 0, 0]) jI_252_78 rfl rfl rfl rfl ?_
  refine jT_eq (LN := [(4, (0, 0)), (0, (4, 0)), (1, (0, 2)), (2, (0, x2)), (3, (0, x3))]) (stN := [(1, 0), (0, 0), (4, 7)]) (hsN := jpA_248) rfl rfl rfl ?_
  refine jT_xaload_n (v := (4, 0)) (pcN := 80) jI_252_79 rfl rfl rfl ?_
  refine jT_xgetf (a := 0) (t := 1) (ci := 14) (fi := 10) (c := jzA_21) (v := (1, 1)) (pcN := 83) jI_252_80 rfl rfl rfl rfl rfl rfl rfl ?_
  refine jT_xiload_n (v := (0, x2)) (pcN := 84) jI_252_83 rfl rfl rfl ?_
  refine jT_xaload_n (v := (4, 0)) (pcN := 85) jI_252_84 rfl rfl rfl ?_
  refine jT_xiload_n (v := (0, 2)) (pcN := 86) jI_252_85 rfl rfl rfl ?_
  refine jT_fR [0, 1, 2, 3, 4, 5, 6, 7, 8, 9, 10, 11, 12, 13, 14, 15] 24 (y := 245) (pcN := 89) (dC := 0) (bc1 := 0) (bc2 := 0) (c1 := 0) (c2 := 0) (as := [(4, 0), (0, 2)]) (asC := [(4, 0), (0, 2)]) (LN := [(4, (0, 0)), (0, (4, 0)), (1, (0, 2)), (2, (0, x2)), (3, (0, x3))]) (stN := [(0, x2), (1, 1), (1, 0), (0, 0), (4, 7)]) (hsC := jpA_1519) (v := (0, 1)) (st2 := [(0, 1), (0, x2), (1, 1), (1, 0), (0, 0), (4, 7)]) (jA_245_379 (d := 0)) (by rfl) (by rfl) (by decide +kernel) (by rfl) (by rfl) (by omega) (by omega) (by omega) (by omega) rfl ?_
  refine jT_fR [] 24 (y := 376) (pcN := 92) (dC := 0) (bc1 := 0) (bc2 := 0) (c1 := 0) (c2 := 0) (as := [(0, x2), (0, 1)]) (asC := [(0, x2), (0, 1)]) (LN := [(4, (0, 0)), (0, (4, 0)), (1, (0, 2)), (2, (0, x2)), (3, (0, x3))]) (stN := [(1, 1), (1, 0), (0, 0), (4, 7)]) (hsC := []) (v := (0, x2 / 1)) (st2 := [(0, x2 / 1), (1, 1), (1, 0), (0, 0), (4, 7)]) (jT_fdI1 (d := 0) (x := x2) (by omega)) (by rfl) (by rfl) (by decide +kernel) (by rfl) (by rfl) (by omega) (by omega) (by omega) (by omega) rfl ?_
  refine jT_eq (LN := [(4, (0, 0)), (0, (4, 0)), (1, (0, 2)), (2, (0, x2)), (3, (0, x3))]) (stN := [(0, x2), (1, 1), (1, 0), (0, 0), (4, 7)]) (hsN := [jzA_21, (100, [], jS0), (100, [], []), jzA_196, jzA_197, jgh, jgh, (101, [], [0, 0, 0, 0, 0, 0]), jgh, jgh, jgh, jgh, jgh, jgh, jgh, jgh, (100, [], (List.replicate 1613 0)), jgh, jgh, jgh, jgh, jgh, jgh, jgh]) (rfl) (by simp only [List.cons.injEq, Prod.mk.injEq, and_true, true_and] <;> ((try unfold jw); (try unfold jwl); omega)) (rfl) ?_
  refine jT_xi2l (x := x2) (z := x2) (pcN := 93) jI_252_92 rfl (jw_idd (by omega) (by omega)) rfl ?_
  refine jT_xlmul (x := 1) (y := x2) (z := x2) (pcN := 94) jI_252_93 rfl (by omega) rfl ?_
  refine jT_xladd (x := 0) (y := x2) (z := x2) (pcN := 95) jI_252_94 rfl (by omega) rfl ?_
  refine jT_adv 1 (pcN := 96) (LN := [(4, (0, 0)), (0, (4, 0)), (1, (0, 2)), (2, (0, x2)), (3, (0, x3))]) (stN := []) (hsN := [jzA_21, (100, [], jS0), (100, [], []), jzA_196, jzA_197, jgh, jgh, (101, [], [x2, 0, 0, 0, 0, 0]), jgh, jgh, jgh, jgh, jgh, jgh, jgh, jgh, (100, [], (List.replicate 1613 0)), jgh, jgh, jgh, jgh, jgh, jgh, jgh]) (c1 := 0) (s1 := 0) (c2 := 0) (s2 := 0) (by exact rfl) ?_ (by omega) (by omega)
  refine jT_xaload_n (v := (4, 0)) (pcN := 97) jI_252_96 rfl rfl rfl ?_
  refine jT_xaload_n (v := (4, 0)) (pcN := 98) jI_252_97 rfl rfl rfl ?_
  refine jT_callA [0, 1, 2, 3, 4, 5, 6, 7, 8, 9, 10, 11, 12, 13, 14, 15] (y := 205) (pcN := 101) (dC := 1) (bc1 := 0) (bc2 := 0) (c1 := 0) (c2 := 0) (as := [(4, 0)]) (asC := [(4, 0)]) (LN := [(4, (0, 0)), (0, (4, 0)), (1, (0, 2)), (2, (0, x2)), (3, (0, x3))]) (stN := [(4, 0)]) (hsC := [jzA_21, jgh, jgh, jgh, jgh, jgh, jgh, (101, [], [x2, 0, 0, 0, 0, 0]), jgh, jgh, jgh, jgh, jgh, jgh, jgh, jgh]) (ex := []) (v := (0, 1)) (st2 := [(0, 1), (4, 0)]) (hs2 := [jzA_21, (100, [], jS0), (100, [], []), jzA_196, jzA_197, jgh, jgh, (101, [], [x2, 0, 0, 0, 0, 0]), jgh, jgh, jgh, jgh, jgh, jgh, jgh, jgh, (100, [], (List.replicate 1613 0)), jgh, jgh, jgh, jgh, jgh, jgh, jgh]) (jA_205_575 (d := 0) (by omega)) (by rfl) (by rfl) (by rfl) (by rfl) ⟨rfl, rfl, rfl, rfl, rfl, rfl, rfl, rfl, rfl, rfl, rfl, rfl, rfl, rfl, rfl, rfl, trivial⟩ (by rfl) (by rfl) (by omega) (by show 24 ≤ 24; omega) (by omega) (by omega) rfl rfl ?_
  refine jT_xiconst (k := 3) (pcN := 102) jI_252_101 rfl ?_
  refine jT_callA [0] (y := 191) (pcN := 105) (dC := 0) (bc1 := 0) (bc2 := 0) (c1 := 0) (c2 := 0) (as := [(4, 0), (0, 1), (0, 3)]) (asC := [(4, 0), (0, 1), (0, 3)]) (LN := [(4, (0, 0)), (0, (4, 0)), (1, (0, 2)), (2, (0, x2)), (3, (0, x3))]) (stN := []) (hsC := [jgh]) (ex := []) (v := (0, 0)) (st2 := [(0, 0)]) (hs2 := [jzA_21, (100, [], jS0), (100, [], []), jzA_196, jzA_197, jgh, jgh, (101, [], [x2, 0, 0, 0, 0, 0]), jgh, jgh, jgh, jgh, jgh, jgh, jgh, jgh, (100, [], (List.replicate 1613 0)), jgh, jgh, jgh, jgh, jgh, jgh, jgh]) (jA_191_117 (d := 0)) (by rfl) (by rfl) (by rfl) (by rfl) ⟨rfl, trivial⟩ (by rfl) (by rfl) (by omega) (by show 24 ≤ 24; omega) (by omega) (by omega) rfl rfl ?_
  refine jT_xifT (pcN := 110) jI_252_105 rfl (by decide +kernel) rfl ?_
  refine jT_xaload_n (v := (4, 0)) (pcN := 111) jI_252_110 rfl rfl rfl ?_
  refine jT_callB [0, 1, 2, 3, 4, 5, 6, 7, 8, 9, 10, 11, 12, 13, 14, 15, 16, 17, 18, 19, 20, 21, 22, 23] (y := 195) (pcN := 114) (dC := 0) (bc1 := 0) (bc2 := 0) (c1 := 0) (c2 := 0) (as := [(4, 0)]) (asC := [(4, 0)]) (LN := [(4, (0, 0)), (0, (4, 0)), (1, (0, 2)), (2, (0, x2)), (3, (0, x3))]) (stN := []) (hsC := jpA_198) (hsD := jpA_202) (v := (9, 0)) (st2 := []) (hs2 := [jzA_200, (100, [], jS0), (100, [], []), jzA_196, jzA_201, jgh, jgh, (101, [], [x2, 0, 0, 0, 0, 0]), jgh, jgh, jgh, jgh, jgh, jgh, jgh, jgh, (100, [], jS0), jgh, jgh, jgh, jgh, jgh, jgh, jgh]) (jA_195_50 (d := 0)) (by rfl) (by rfl) (by rfl) (by rfl) ⟨rfl, rfl, rfl, rfl, rfl, rfl, rfl, rfl, rfl, rfl, rfl, rfl, rfl, rfl, rfl, rfl, rfl, rfl, rfl, rfl, rfl, rfl, rfl, rfl, trivial⟩ (by rfl) (by rfl) (by omega) (by show 24 ≤ 24; omega) (by omega) (by omega) rfl rfl ?_
  refine jT_xaload_n (v := (4, 0)) (pcN := 115) jI_252_114 rfl rfl rfl ?_
  refine jT_xiload_n (v := (0, x3)) (pcN := 116) jI_252_115 rfl rfl rfl ?_
  refine jT_callB [0, 1, 2, 3, 4, 5, 6, 7, 8, 9, 10, 11, 12, 13, 14, 15] (y := 196) (pcN := 119) (dC := 1) (bc1 := 0) (bc2 := 0) (c1 := 0) (c2 := 0) (as := [(4, 0), (0, x3)]) (asC := [(4, 0), (0, x3)]) (LN := [(4, (0, 0)), (0, (4, 0)), (1, (0, 2)), (2, (0, x2)), (3, (0, x3))]) (stN := []) (hsC := [jzA_200, (100, [], jS0), jgh, jgh, jgh, jgh, jgh, (101, [], [x2, 0, 0, 0, 0, 0]), jgh, jgh, jgh, jgh, jgh, jgh, jgh, jgh]) (hsD := [jzA_200, (100, [], ((((((((((((((jS0).set ((7 * x3).toNat) x2)).set ((7 * x3 + 1).toNat) 0)).set ((7 * x3 + 2).toNat) 0)).set ((7 * x3 + 3).toNat) 0)).set ((7 * x3 + 4).toNat) 0)).set ((7 * x3 + 5).toNat) 0)).set ((7 * x3 + 6).toNat) 1)), jgh, jgh, jgh, jgh, jgh, (101, [], [x2, 0, 0, 0, 0, 0]), jgh, jgh, jgh, jgh, jgh, jgh, jgh, jgh]) (v := (0, 1)) (st2 := [(0, 1)]) (hs2 := [jzA_200, (100, [], ((((((((((((((jS0).set ((7 * x3).toNat) x2)).set ((7 * x3 + 1).toNat) 0)).set ((7 * x3 + 2).toNat) 0)).set ((7 * x3 + 3).toNat) 0)).set ((7 * x3 + 4).toNat) 0)).set ((7 * x3 + 5).toNat) 0)).set ((7 * x3 + 6).toNat) 1)), (100, [], []), jzA_196, jzA_201, jgh, jgh, (101, [], [x2, 0, 0, 0, 0, 0]), jgh, jgh, jgh, jgh, jgh, jgh, jgh, jgh, (100, [], jS0), jgh, jgh, jgh, jgh, jgh, jgh, jgh]) (jA_196_577 (d := 0) (by omega) (by omega)) (by rfl) (by rfl) (by rfl) (by rfl) ⟨rfl, rfl, rfl, rfl, rfl, rfl, rfl, rfl, rfl, rfl, rfl, rfl, rfl, rfl, rfl, rfl, trivial⟩ (by rfl) (by rfl) (by omega) (by show 24 ≤ 24; omega) (by omega) (by omega) rfl rfl ?_
  refine jT_adv 1 (pcN := 120) (LN := [(4, (0, 0)), (0, (4, 0)), (1, (0, 2)), (2, (0, x2)), (3, (0, x3))]) (stN := []) (hsN := [jzA_200, (100, [], ((((((((((((((jS0).set ((7 * x3).toNat) x2)).set ((7 * x3 + 1).toNat) 0)).set ((7 * x3 + 2).toNat) 0)).set ((7 * x3 + 3).toNat) 0)).set ((7 * x3 + 4).toNat) 0)).set ((7 * x3 + 5).toNat) 0)).set ((7 * x3 + 6).toNat) 1)), (100, [], []), jzA_196, jzA_201, jgh, jgh, (101, [], [x2, 0, 0, 0, 0, 0]), jgh, jgh, jgh, jgh, jgh, jgh, jgh, jgh, (100, [], jS0), jgh, jgh, jgh, jgh, jgh, jgh, jgh]) (c1 := 0) (s1 := 0) (c2 := 0) (s2 := 0) (by exact rfl) ?_ (by omega) (by omega)
  refine jT_xiload (v := (0, 0)) (pcN := 122) jI_252_120 rfl rfl rfl ?_
  exact jT_ret rfl (by decide) (by show 24 ≤ 24; decide) (by omega) (by omega) ⟨rfl, rfl, rfl⟩
def jpA_2295 : List JC := [jzA_5, jgh, jgh, jgh, jgh, jgh, jgh, jgh, jgh, jgh, jzA_79, jzA_88, jzA_89, (117, [], [18, 19, 20, 21]), jgh, jgh, jgh, (4, [(4, 22), (1, 1)], []), jgh, jgh, jgh, (7, [(4, 23), (4, (-1)), (4, (-1))], []), (101, [], [0, 0, 0, 0, 0, 0]), (114, [], [17])]
theorem jA_132_597 {xs : List Int} {d : Nat} {x2 x3 : Int} (h_x2 : (-200) ≤ x2 ∧ x2 ≤ (-1)) (h_x3 : 0 ≤ x3 ∧ x3 ≤ 7) : jT xs (d + 3) 132 24 0 [(0, (4, 0)), (1, (0, 3)), (2, (0, x2)), (3, (0, x3))] [] jpA_2295 4 21 (fun k v hsN => k = 0 ∧ v = (0, 0) ∧ hsN = [jzA_2217, jgh, jgh, jgh, jgh, jgh, jgh, jgh, jgh, jgh, jzA_102, jzA_88, jzA_89, (117, [], [18, 19, 20, 21]), jgh, jgh, jgh, (4, [(4, 22), (1, 1)], []), jgh, jgh, jgh, (7, [(4, 23), (4, (-1)), (4, (-1))], []), (101, [], [0, 0, 0, 0, 0, 0]), (114, [], [17]), (101, [], [x2, 0, 0, 0, 0, 0]), (4, [(4, 24), (1, 1)], []), jgh, jzA_2216]) := by
  refine jT_xaload_n (v := (4, 0)) (pcN := 1) jI_132_0 rfl rfl rfl ?_
  refine jT_xiload_n (v := (0, 3)) (pcN := 2) jI_132_1 rfl rfl rfl ?_
  refine jT_xiconst (k := 4) (pcN := 3) jI_132_2 rfl ?_
  refine jT_fR [0] 24 (y := 115) (pcN := 6) (dC := 0) (bc1 := 0) (bc2 := 0) (c1 := 4) (c2 := 21) (as := [(4, 0), (0, 3), (0, 4)]) (asC := [(4, 0), (0, 3), (0, 4)]) (LN := [(0, (4, 0)), (1, (0, 3)), (2, (0, x2)), (3, (0, x3))]) (stN := []) (hsC := [jgh]) (v := (9, 0)) (st2 := []) (jA_115_387 (d := 0)) (by rfl) (by rfl) (by decide +kernel) (by rfl) (by rfl) (by omega) (by omega) (by omega) (by omega) rfl ?_
  refine jT_xaload_n (v := (4, 0)) (pcN := 7) jI_132_6 rfl rfl rfl ?_
  refine jT_xiload_n (v := (0, x3)) (pcN := 8) jI_132_7 rfl rfl rfl ?_
  refine jT_xbipush (k := 8) (pcN := 10) jI_132_8 (by decide) rfl ?_
  refine jT_fR [0] 24 (y := 115) (pcN := 13) (dC := 0) (bc1 := 0) (bc2 := 0) (c1 := 4) (c2 := 21) (as := [(4, 0), (0, x3), (0, 8)]) (asC := [(4, 0), (0, x3), (0, 8)]) (LN := [(0, (4, 0)), (1, (0, 3)), (2, (0, x2)), (3, (0, x3))]) (stN := []) (hsC := [jgh]) (v := (9, 0)) (st2 := []) (jA_115_23 (d := 0) (by omega)) (by rfl) (by rfl) (by decide +kernel) (by rfl) (by rfl) (by omega) (by omega) (by omega) (by omega) rfl ?_
  refine jT_xaload_n (v := (4, 0)) (pcN := 14) jI_132_13 rfl rfl rfl ?_
  refine jT_xiload_n (v := (0, x2)) (pcN := 15) jI_132_14 rfl rfl rfl ?_
  refine jT_xsipush (k := (-200)) (pcN := 18) jI_132_15 (by decide) rfl ?_
  refine jT_xsipush (k := 200) (pcN := 21) jI_132_18 (by decide) rfl ?_
  refine jT_fR [0] 24 (y := 116) (pcN := 24) (dC := 0) (bc1 := 0) (bc2 := 0) (c1 := 4) (c2 := 21) (as := [(4, 0), (0, x2), (0, (-200)), (0, 200)]) (asC := [(4, 0), (0, x2), (0, (-200)), (0, 200)]) (LN := [(0, (4, 0)), (1, (0, 3)), (2, (0, x2)), (3, (0, x3))]) (stN := []) (hsC := [jgh]) (v := (9, 0)) (st2 := []) (jA_116_542 (d := 0) (by omega)) (by rfl) (by rfl) (by decide +kernel) (by rfl) (by rfl) (by omega) (by omega) (by omega) (by omega) rfl ?_
  refine jT_xaload_n (v := (4, 0)) (pcN := 25) jI_132_24 rfl rfl rfl ?_
  refine jT_xgetf (a := 0) (t := 1) (ci := 13) (fi := 11) (c := jzA_5) (v := (4, 11)) (pcN := 28) jI_132_25 rfl rfl rfl rfl rfl rfl rfl ?_
  refine jT_xiload_n (v := (0, 3)) (pcN := 29) jI_132_28 rfl rfl rfl ?_
  refine jT_fR [11, 12, 13, 14, 15, 16, 18, 19, 20, 21] 24 (y := 56) (pcN := 32) (dC := 0) (bc1 := 0) (bc2 := 0) (c1 := 4) (c2 := 21) (as := [(4, 11), (0, 3)]) (asC := [(4, 0), (0, 3)]) (LN := [(0, (4, 0)), (1, (0, 3)), (2, (0, x2)), (3, (0, x3))]) (stN := []) (hsC := jpA_1446) (v := (4, 9)) (st2 := [(4, 21)]) (jA_56_388 (d := 0)) (by rfl) (by rfl) (by decide +kernel) (by rfl) (by rfl) (by omega) (by omega) (by omega) (by omega) rfl ?_
  refine jT_xastore (v := (4, 21)) (LN := [(4, (4, 21)), (0, (4, 0)), (1, (0, 3)), (2, (0, x2)), (3, (0, x3))]) (pcN := 34) jI_132_32 rfl rfl rfl rfl ?_
  refine jT_xiconst (k := 1) (pcN := 35) jI_132_34 rfl ?_
  refine jT_xaload (v := (4, 21)) (pcN := 37) jI_132_35 rfl rfl rfl ?_
  refine jT_fR [21, 23, 17] 24 (y := 29) (pcN := 40) (dC := 0) (bc1 := 0) (bc2 := 0) (c1 := 4) (c2 := 21) (as := [(4, 21)]) (asC := [(4, 0)]) (LN := [(4, (4, 21)), (0, (4, 0)), (1, (0, 3)), (2, (0, x2)), (3, (0, x3))]) (stN := [(0, 1)]) (hsC := [(7, [(4, 1), (4, (-1)), (4, (-1))], []), (114, [], [2]), jgh]) (v := (0, 1)) (st2 := [(0, 1), (0, 1)]) (jA_29_416 (d := 0)) (by rfl) (by rfl) (by decide +kernel) (by rfl) (by rfl) (by omega) (by omega) (by omega) (by omega) rfl ?_
  refine jT_mm0 (x := 1) (y := 1) (z := 1) (by rfl) (by rfl) (by rfl) (by rfl) (jw_idd (by omega) (by omega)) (jw_idd (by omega) (by omega)) (by rw [decide_eq_false (show ¬ ((1 : Int) < 1) by omega)]; rfl) ?_
  refine jT_xistore (v := (0, 1)) (LN := [(5, (0, 1)), (4, (4, 21)), (0, (4, 0)), (1, (0, 3)), (2, (0, x2)), (3, (0, x3))]) (pcN := 45) jI_132_43 rfl rfl rfl rfl ?_
  refine jT_xiload_n (v := (0, x2)) (pcN := 46) jI_132_45 rfl rfl rfl ?_
  refine jT_xiload (v := (0, 1)) (pcN := 48) jI_132_46 rfl rfl rfl ?_
  refine jT_fR [] 24 (y := 375) (pcN := 51) (dC := 0) (bc1 := 0) (bc2 := 0) (c1 := 4) (c2 := 21) (as := [(0, x2), (0, 1)]) (asC := [(0, x2), (0, 1)]) (LN := [(5, (0, 1)), (4, (4, 21)), (0, (4, 0)), (1, (0, 3)), (2, (0, x2)), (3, (0, x3))]) (stN := []) (hsC := []) (v := (0, x2 % 1)) (st2 := [(0, x2 % 1)]) (jT_fmI1 (d := 0) (x := x2) (by omega)) (by rfl) (by rfl) (by decide +kernel) (by rfl) (by rfl) (by omega) (by omega) (by omega) (by omega) rfl ?_
  refine jT_eq (LN := [(5, (0, 1)), (4, (4, 21)), (0, (4, 0)), (1, (0, 3)), (2, (0, x2)), (3, (0, x3))]) (stN := [(0, 0)]) (hsN := [jzA_5, jgh, jgh, jgh, jgh, jgh, jgh, jgh, jgh, jgh, jzA_79, jzA_88, jzA_89, (117, [], [18, 19, 20, 21]), jgh, jgh, jgh, (4, [(4, 22), (1, 1)], []), jgh, jgh, jgh, (7, [(4, 23), (4, (-1)), (4, (-1))], []), (101, [], [0, 0, 0, 0, 0, 0]), (114, [], [17])]) (rfl) (by simp only [List.cons.injEq, Prod.mk.injEq, and_true, true_and] <;> ((try unfold jw); (try unfold jwl); omega)) (rfl) ?_
  refine jT_xistore (v := (0, 0)) (LN := [(6, (0, 0)), (5, (0, 1)), (4, (4, 21)), (0, (4, 0)), (1, (0, 3)), (2, (0, x2)), (3, (0, x3))]) (pcN := 53) jI_132_51 rfl rfl rfl rfl ?_
  refine jT_xaload (v := (4, 21)) (pcN := 55) jI_132_53 rfl rfl rfl ?_
  refine jT_xiload (v := (0, 0)) (pcN := 57) jI_132_55 rfl rfl rfl ?_
  refine jT_fR [21, 23, 17] 24 (y := 30) (pcN := 60) (dC := 0) (bc1 := 0) (bc2 := 0) (c1 := 4) (c2 := 21) (as := [(4, 21), (0, 0)]) (asC := [(4, 0), (0, 0)]) (LN := [(6, (0, 0)), (5, (0, 1)), (4, (4, 21)), (0, (4, 0)), (1, (0, 3)), (2, (0, x2)), (3, (0, x3))]) (stN := []) (hsC := [(7, [(4, 1), (4, (-1)), (4, (-1))], []), (114, [], [2]), jgh]) (v := (4, 2)) (st2 := [(4, 17)]) (jA_30_538 (d := 0)) (by rfl) (by rfl) (by decide +kernel) (by rfl) (by rfl) (by omega) (by omega) (by omega) (by omega) rfl ?_
  refine jT_xlconst (z := 1) (pcN := 61) jI_132_60 rfl rfl ?_
  refine jT_xlconst (z := 1) (pcN := 62) jI_132_61 rfl rfl ?_
  refine jT_xiload_n (v := (0, x2)) (pcN := 63) jI_132_62 rfl rfl rfl ?_
  refine jT_xiload (v := (0, 1)) (pcN := 65) jI_132_63 rfl rfl rfl ?_
  refine jT_fR [] 24 (y := 376) (pcN := 68) (dC := 0) (bc1 := 0) (bc2 := 0) (c1 := 4) (c2 := 21) (as := [(0, x2), (0, 1)]) (asC := [(0, x2), (0, 1)]) (LN := [(6, (0, 0)), (5, (0, 1)), (4, (4, 21)), (0, (4, 0)), (1, (0, 3)), (2, (0, x2)), (3, (0, x3))]) (stN := [(1, 1), (1, 1), (4, 17)]) (hsC := []) (v := (0, x2 / 1)) (st2 := [(0, x2 / 1), (1, 1), (1, 1), (4, 17)]) (jT_fdI1 (d := 0) (x := x2) (by omega)) (by rfl) (by rfl) (by decide +kernel) (by rfl) (by rfl) (by omega) (by omega) (by omega) (by omega) rfl ?_
  refine jT_eq (LN := [(6, (0, 0)), (5, (0, 1)), (4, (4, 21)), (0, (4, 0)), (1, (0, 3)), (2, (0, x2)), (3, (0, x3))]) (stN := [(0, x2), (1, 1), (1, 1), (4, 17)]) (hsN := [jzA_5, jgh, jgh, jgh, jgh, jgh, jgh, jgh, jgh, jgh, jzA_79, jzA_88, jzA_89, (117, [], [18, 19, 20, 21]), jgh, jgh, jgh, (4, [(4, 22), (1, 1)], []), jgh, jgh, jgh, (7, [(4, 23), (4, (-1)), (4, (-1))], []), (101, [], [0, 0, 0, 0, 0, 0]), (114, [], [17])]) (rfl) (by simp only [List.cons.injEq, Prod.mk.injEq, and_true, true_and] <;> ((try unfold jw); (try unfold jwl); omega)) (rfl) ?_
  refine jT_xi2l (x := x2) (z := x2) (pcN := 69) jI_132_68 rfl (jw_idd (by omega) (by omega)) rfl ?_
  refine jT_fA [17, 22] 24 (y := 10) (pcN := 72) (dC := 2) (bc1 := 2) (bc2 := 8) (c1 := 2) (c2 := 13) (as := [(4, 17), (1, 1), (1, 1), (1, x2)]) (asC := [(4, 0), (1, 1), (1, 1), (1, x2)]) (LN := [(6, (0, 0)), (5, (0, 1)), (4, (4, 21)), (0, (4, 0)), (1, (0, 3)), (2, (0, x2)), (3, (0, x3))]) (stN := []) (hsC := [(4, [(4, 1), (1, 1)], []), (101, [], [0, 0, 0, 0, 0, 0])]) (ex := [(101, [], [x2, 0, 0, 0, 0, 0]), (4, [(4, 2), (1, 1)], [])]) (v := (4, 3)) (st2 := [(4, 25)]) (hs2 := [jzA_5, jgh, jgh, jgh, jgh, jgh, jgh, jgh, jgh, jgh, jzA_79, jzA_88, jzA_89, (117, [], [18, 19, 20, 21]), jgh, jgh, jgh, (4, [(4, 22), (1, 1)], []), jgh, jgh, jgh, (7, [(4, 23), (4, (-1)), (4, (-1))], []), (101, [], [0, 0, 0, 0, 0, 0]), (114, [], [17]), (101, [], [x2, 0, 0, 0, 0, 0]), (4, [(4, 24), (1, 1)], [])]) (jA_10_545 (d := 0) (by omega)) (by rfl) (by rfl) (by decide +kernel) (by rfl) (by rfl) (by omega) (by omega) (by omega) (by omega) rfl rfl ?_
  refine jT_xastore (v := (4, 25)) (LN := [(7, (4, 25)), (6, (0, 0)), (5, (0, 1)), (4, (4, 21)), (0, (4, 0)), (1, (0, 3)), (2, (0, x2)), (3, (0, x3))]) (pcN := 74) jI_132_72 rfl rfl rfl rfl ?_
  refine jT_xaload_n (v := (4, 0)) (pcN := 75) jI_132_74 rfl rfl rfl ?_
  refine jT_xaload (v := (4, 25)) (pcN := 77) jI_132_75 rfl rfl rfl ?_
  refine jT_callA [0, 25, 24] (y := 117) (pcN := 80) (dC := 2) (bc1 := 0) (bc2 := 0) (c1 := 2) (c2 := 13) (as := [(4, 0), (4, 25)]) (asC := [(4, 0), (4, 1)]) (LN := [(7, (4, 25)), (6, (0, 0)), (5, (0, 1)), (4, (4, 21)), (0, (4, 0)), (1, (0, 3)), (2, (0, x2)), (3, (0, x3))]) (stN := []) (hsC := [jgh, (4, [(4, 2), (1, 1)], []), (101, [], [x2, 0, 0, 0, 0, 0])]) (ex := []) (v := (9, 0)) (st2 := []) (hs2 := [jzA_5, jgh, jgh, jgh, jgh, jgh, jgh, jgh, jgh, jgh, jzA_79, jzA_88, jzA_89, (117, [], [18, 19, 20, 21]), jgh, jgh, jgh, (4, [(4, 22), (1, 1)], []), jgh, jgh, jgh, (7, [(4, 23), (4, (-1)), (4, (-1))], []), (101, [], [0, 0, 0, 0, 0, 0]), (114, [], [17]), (101, [], [x2, 0, 0, 0, 0, 0]), (4, [(4, 24), (1, 1)], [])]) (jA_117_548 (d := 0) (by omega)) (by rfl) (by rfl) (by rfl) (by rfl) ⟨rfl, rfl, rfl, trivial⟩ (by rfl) (by rfl) (by omega) (by show 24 ≤ 26; omega) (by omega) (by omega) rfl rfl ?_
  refine jT_xaload_n (v := (4, 0)) (pcN := 81) jI_132_80 rfl rfl rfl ?_
  refine jT_xaload_n (v := (4, 0)) (pcN := 82) jI_132_81 rfl rfl rfl ?_
  refine jT_xgetf (a := 0) (t := 1) (ci := 13) (fi := 11) (c := jzA_5) (v := (4, 11)) (pcN := 85) jI_132_82 rfl rfl rfl rfl rfl rfl rfl ?_
  refine jT_xiload_n (v := (0, x3)) (pcN := 86) jI_132_85 rfl rfl rfl ?_
  refine jT_xaload (v := (4, 25)) (pcN := 88) jI_132_86 rfl rfl rfl ?_
  refine jT_callA [11, 25, 12, 13, 14, 15, 16, 24, 17] (y := 58) (pcN := 91) (dC := 1) (bc1 := 2) (bc2 := 13) (c1 := 0) (c2 := 0) (as := [(4, 11), (0, x3), (4, 25)]) (asC := [(4, 0), (0, x3), (4, 1)]) (LN := [(7, (4, 25)), (6, (0, 0)), (5, (0, 1)), (4, (4, 21)), (0, (4, 0)), (1, (0, 3)), (2, (0, x2)), (3, (0, x3))]) (stN := [(4, 0)]) (hsC := jpA_74) (ex := [jgh, jzA_72]) (v := (4, 10)) (st2 := [(4, 27), (4, 0)]) (hs2 := [jzA_5, jgh, jgh, jgh, jgh, jgh, jgh, jgh, jgh, jgh, jzA_79, jzA_88, jzA_89, (117, [], [18, 19, 20, 21]), jgh, jgh, jgh, (4, [(4, 22), (1, 1)], []), jgh, jgh, jgh, (7, [(4, 23), (4, (-1)), (4, (-1))], []), (101, [], [0, 0, 0, 0, 0, 0]), (114, [], [17]), (101, [], [x2, 0, 0, 0, 0, 0]), (4, [(4, 24), (1, 1)], []), jgh, jzA_2216]) (jA_58_181 (d := 0) (by omega)) (by rfl) (by rfl) (by rfl) (by rfl) ⟨rfl, rfl, rfl, rfl, rfl, rfl, rfl, rfl, rfl, trivial⟩ (by rfl) (by rfl) (by omega) (by show 24 ≤ 26; omega) (by omega) (by omega) rfl rfl ?_
  refine jT_callB [0, 27, 1, 2, 3, 4, 5, 6, 7, 8, 9, 10, 11, 12, 13, 14, 15, 16] (y := 100) (pcN := 94) (dC := 0) (bc1 := 0) (bc2 := 0) (c1 := 0) (c2 := 0) (as := [(4, 0), (4, 27)]) (asC := [(4, 0), (4, 1)]) (LN := [(7, (4, 25)), (6, (0, 0)), (5, (0, 1)), (4, (4, 21)), (0, (4, 0)), (1, (0, 3)), (2, (0, x2)), (3, (0, x3))]) (stN := []) (hsC := jpA_80) (hsD := jpA_78) (v := (9, 0)) (st2 := []) (hs2 := [jzA_2217, jgh, jgh, jgh, jgh, jgh, jgh, jgh, jgh, jgh, jzA_102, jzA_88, jzA_89, (117, [], [18, 19, 20, 21]), jgh, jgh, jgh, (4, [(4, 22), (1, 1)], []), jgh, jgh, jgh, (7, [(4, 23), (4, (-1)), (4, (-1))], []), (101, [], [0, 0, 0, 0, 0, 0]), (114, [], [17]), (101, [], [x2, 0, 0, 0, 0, 0]), (4, [(4, 24), (1, 1)], []), jgh, jzA_2216]) (jA_100_34 (d := 0)) (by rfl) (by rfl) (by rfl) (by rfl) ⟨rfl, rfl, rfl, rfl, rfl, rfl, rfl, rfl, rfl, rfl, rfl, rfl, rfl, rfl, rfl, rfl, rfl, rfl, trivial⟩ (by rfl) (by rfl) (by omega) (by show 24 ≤ 28; omega) (by omega) (by omega) rfl rfl ?_
  refine jT_xiload (v := (0, 0)) (pcN := 96) jI_132_94 rfl rfl rfl ?_
  exact jT_ret rfl (by decide) (by show 24 ≤ 28; decide) (by omega) (by omega) ⟨rfl, rfl, rfl⟩
def jpA_2296 : List JC := [jzA_14, (101, [], [0]), jgh, jgh, jgh, jgh, jgh, jgh, jgh, jgh, jgh, jzA_79, jzA_77, jzA_109, (117, [], [19, 20, 21, 22]), jgh, jgh, jgh, (4, [(4, 23), (1, 1)], []), jgh, jgh, jgh, (7, [(4, 24), (4, (-1)), (4, (-1))], []), (101, [], [0, 0, 0, 0, 0, 0]), (114, [], [18])]
theorem jA_339_598 {xs : List Int} {d : Nat} {x2 x3 : Int} (h_x2 : (-200) ≤ x2 ∧ x2 ≤ (-1)) (h_x3 : 0 ≤ x3 ∧ x3 ≤ 7) : jT xs (d + 4) 339 25 0 [(0, (4, 0)), (1, (0, 3)), (2, (0, x2)), (3, (0, x3)), (4, (4, 1))] [] jpA_2296 4 21 (fun k v hsN => k = 0 ∧ v = (0, 0) ∧ hsN = [jzA_2220, (101, [], [0]), jgh, jgh, jgh, jgh, jgh, jgh, jgh, jgh, jgh, jzA_76, jzA_77, jzA_109, (117, [], [19, 20, 21, 22]), jgh, jgh, jgh, (4, [(4, 23), (1, 1)], []), jgh, jgh, jgh, (7, [(4, 24), (4, (-1)), (4, (-1))], []), (101, [], [0, 0, 0, 0, 0, 0]), (114, [], [18]), (101, [], [x2, 0, 0, 0, 0, 0]), (4, [(4, 25), (1, 1)], []), jgh, jzA_2221]) := by
  refine jT_xaload (v := (4, 1)) (pcN := 2) jI_339_0 rfl rfl rfl ?_
  refine jT_xiconst (k := 0) (pcN := 3) jI_339_2 rfl ?_
  refine jT_xaload_n (v := (4, 0)) (pcN := 4) jI_339_3 rfl rfl rfl ?_
  refine jT_xiload_n (v := (0, 3)) (pcN := 5) jI_339_4 rfl rfl rfl ?_
  refine jT_xiload_n (v := (0, x2)) (pcN := 6) jI_339_5 rfl rfl rfl ?_
  refine jT_xiload_n (v := (0, x3)) (pcN := 7) jI_339_6 rfl rfl rfl ?_
  refine jT_fB [0, 2, 3, 4, 5, 6, 7, 8, 9, 10, 11, 12, 13, 14, 15, 16, 17, 18, 19, 20, 21, 22, 23, 24] 25 (y := 132) (pcN := 10) (dC := 3) (bc1 := 4) (bc2 := 21) (c1 := 0) (c2 := 0) (as := [(4, 0), (0, 3), (0, x2), (0, x3)]) (asC := [(4, 0), (0, 3), (0, x2), (0, x3)]) (LN := [(0, (4, 0)), (1, (0, 3)), (2, (0, x2)), (3, (0, x3)), (4, (4, 1))]) (stN := [(0, 0), (4, 1)]) (hsC := jpA_2295) (hsD := [jzA_2217, jgh, jgh, jgh, jgh, jgh, jgh, jgh, jgh, jgh, jzA_102, jzA_88, jzA_89, (117, [], [18, 19, 20, 21]), jgh, jgh, jgh, (4, [(4, 22), (1, 1)], []), jgh, jgh, jgh, (7, [(4, 23), (4, (-1)), (4, (-1))], []), (101, [], [0, 0, 0, 0, 0, 0]), (114, [], [17]), (101, [], [x2, 0, 0, 0, 0, 0]), (4, [(4, 24), (1, 1)], []), jgh, jzA_2216]) (v := (0, 0)) (st2 := [(0, 0), (0, 0), (4, 1)]) (hs2 := [jzA_2220, (101, [], [0]), jgh, jgh, jgh, jgh, jgh, jgh, jgh, jgh, jgh, jzA_76, jzA_77, jzA_109, (117, [], [19, 20, 21, 22]), jgh, jgh, jgh, (4, [(4, 23), (1, 1)], []), jgh, jgh, jgh, (7, [(4, 24), (4, (-1)), (4, (-1))], []), (101, [], [0, 0, 0, 0, 0, 0]), (114, [], [18]), (101, [], [x2, 0, 0, 0, 0, 0]), (4, [(4, 25), (1, 1)], []), jgh, jzA_2221]) (jA_132_597 (d := 0) (by omega) (by omega)) (by rfl) (by rfl) (by decide +kernel) (by rfl) (by rfl) (by omega) (by omega) (by omega) (by omega) rfl rfl ?_
  refine jT_xi2l (x := 0) (z := 0) (pcN := 11) jI_339_10 rfl (by decide +kernel) rfl ?_
  refine jT_adv 1 (pcN := 12) (LN := [(0, (4, 0)), (1, (0, 3)), (2, (0, x2)), (3, (0, x3)), (4, (4, 1))]) (stN := []) (hsN := [jzA_2220, (101, [], [0]), jgh, jgh, jgh, jgh, jgh, jgh, jgh, jgh, jgh, jzA_76, jzA_77, jzA_109, (117, [], [19, 20, 21, 22]), jgh, jgh, jgh, (4, [(4, 23), (1, 1)], []), jgh, jgh, jgh, (7, [(4, 24), (4, (-1)), (4, (-1))], []), (101, [], [0, 0, 0, 0, 0, 0]), (114, [], [18]), (101, [], [x2, 0, 0, 0, 0, 0]), (4, [(4, 25), (1, 1)], []), jgh, jzA_2221]) (c1 := 0) (s1 := 0) (c2 := 0) (s2 := 0) (by exact rfl) ?_ (by omega) (by omega)
  refine jT_xgoto (pcN := 27) jI_339_12 rfl ?_
  refine jT_xiconst (k := 0) (pcN := 28) jI_339_27 rfl ?_
  exact jT_ret rfl (by decide) (by show 25 ≤ 29; decide) (by omega) (by omega) ⟨rfl, rfl, rfl⟩
theorem jA_252_599 {xs : List Int} {d : Nat} {x2 x3 : Int} (h_x2 : (-200) ≤ x2 ∧ x2 ≤ (-1)) (h_x3 : 0 ≤ x3 ∧ x3 ≤ 7) : jT xs (d + 2) 252 24 0 [(0, (4, 0)), (1, (0, 3)), (2, (0, x2)), (3, (0, x3))] [] jpA_248 0 0 (fun k v hsN => k = 0 ∧ v = (0, 0) ∧ hsN = [jzA_200, (100, [], ((((((((((((((jS0).set ((7 * x3).toNat) x2)).set ((7 * x3 + 1).toNat) 0)).set ((7 * x3 + 2).toNat) 0)).set ((7 * x3 + 3).toNat) 0)).set ((7 * x3 + 4).toNat) 0)).set ((7 * x3 + 5).toNat) 0)).set ((7 * x3 + 6).toNat) 1)), (100, [], []), jzA_196, jzA_201, jgh, jgh, (101, [], [x2, 0, 0, 0, 0, 0]), jgh, jgh, jgh, jgh, jgh, jgh, jgh, jgh, (100, [], jS0), jgh, jgh, jgh, jgh, jgh, jgh, jgh]) := by
  refine jT_xaload_n (v := (4, 0)) (pcN := 1) jI_252_0 rfl rfl rfl ?_
  refine jT_xiload_n (v := (0, 3)) (pcN := 2) jI_252_1 rfl rfl rfl ?_
  refine jT_fR [] 24 (y := 238) (pcN := 5) (dC := 1) (bc1 := 0) (bc2 := 0) (c1 := 0) (c2 := 0) (as := [(0, 3)]) (asC := [(0, 3)]) (LN := [(0, (4, 0)), (1, (0, 3)), (2, (0, x2)), (3, (0, x3))]) (stN := [(4, 0)]) (hsC := []) (v := (0, 1)) (st2 := [(0, 1), (4, 0)]) (jA_238_393 (d := 0)) (by rfl) (by rfl) (by decide +kernel) (by rfl) (by rfl) (by omega) (by omega) (by omega) (by omega) rfl ?_
  refine jT_xifF (t := 19) (pcN := 8) jI_252_5 rfl (by decide +kernel) rfl rfl ?_
  refine jT_xiload_n (v := (0, x3)) (pcN := 9) jI_252_8 rfl rfl rfl ?_
  refine jT_fR [] 24 (y := 188) (pcN := 12) (dC := 1) (bc1 := 0) (bc2 := 0) (c1 := 0) (c2 := 0) (as := [(0, x3)]) (asC := [(0, x3)]) (LN := [(0, (4, 0)), (1, (0, 3)), (2, (0, x2)), (3, (0, x3))]) (stN := [(4, 0)]) (hsC := []) (v := (0, 1)) (st2 := [(0, 1), (4, 0)]) (jA_188_37 (d := 0) (by omega)) (by rfl) (by rfl) (by decide +kernel) (by rfl) (by rfl) (by omega) (by omega) (by omega) (by omega) rfl ?_
  refine jT_xifF (t := 19) (pcN := 15) jI_252_12 rfl (by decide +kernel) rfl rfl ?_
  refine jT_xiconst (k := 1) (pcN := 16) jI_252_15 rfl ?_
  refine jT_xgoto (pcN := 20) jI_252_16 rfl ?_
  refine jT_fR [0, 1, 2, 3, 4, 5, 6, 7, 8, 9, 10, 11, 12, 13, 14, 15] 24 (y := 190) (pcN := 23) (dC := 1) (bc1 := 0) (bc2 := 0) (c1 := 0) (c2 := 0) (as := [(4, 0), (0, 1)]) (asC := [(4, 0), (0, 1)]) (LN := [(0, (4, 0)), (1, (0, 3)), (2, (0, x2)), (3, (0, x3))]) (stN := []) (hsC := jpA_22) (v := (0, 0)) (st2 := [(0, 0)]) (jA_190_39 (d := 0)) (by rfl) (by rfl) (by decide +kernel) (by rfl) (by rfl) (by omega) (by omega) (by omega) (by omega) rfl ?_
  refine jT_xifF (t := 45) (pcN := 26) jI_252_23 rfl (by decide +kernel) rfl rfl ?_
  refine jT_xaload_n (v := (4, 0)) (pcN := 27) jI_252_26 rfl rfl rfl ?_
  refine jT_xiload_n (v := (0, x2)) (pcN := 28) jI_252_27 rfl rfl rfl ?_
  refine jT_xi2l (x := x2) (z := x2) (pcN := 29) jI_252_28 rfl (jw_idd (by omega) (by omega)) rfl ?_
  refine jT_adv 2 (pcN := 35) (LN := [(0, (4, 0)), (1, (0, 3)), (2, (0, x2)), (3, (0, x3))]) (stN := [(1, 200), (1, (-200)), (1, x2), (4, 0)]) (hsN := jpA_248) (c1 := 0) (s1 := 0) (c2 := 0) (s2 := 0) (by exact rfl) ?_ (by omega) (by omega)
  refine jT_fR [] 24 (y := 189) (pcN := 38) (dC := 0) (bc1 := 0) (bc2 := 0) (c1 := 0) (c2 := 0) (as := [(1, x2), (1, (-200)), (1, 200)]) (asC := [(1, x2), (1, (-200)), (1, 200)]) (LN := [(0, (4, 0)), (1, (0, 3)), (2, (0, x2)), (3, (0, x3))]) (stN := [(4, 0)]) (hsC := []) (v := (0, 1)) (st2 := [(0, 1), (4, 0)]) (jT_in_ok (d := 0) (v := x2) (lo := (-200)) (hi := 200) (by omega) (by omega) (by omega) (by omega) (by omega)) (by rfl) (by rfl) (by decide +kernel) (by rfl) (by rfl) (by omega) (by omega) (by omega) (by omega) rfl ?_
  refine jT_xiconst (k := 2) (pcN := 39) jI_252_38 rfl ?_
  refine jT_fR [0] 24 (y := 191) (pcN := 42) (dC := 0) (bc1 := 0) (bc2 := 0) (c1 := 0) (c2 := 0) (as := [(4, 0), (0, 1), (0, 2)]) (asC := [(4, 0), (0, 1), (0, 2)]) (LN := [(0, (4, 0)), (1, (0, 3)), (2, (0, x2)), (3, (0, x3))]) (stN := []) (hsC := [jgh]) (v := (0, 0)) (st2 := [(0, 0)]) (jA_191_49 (d := 0)) (by rfl) (by rfl) (by decide +kernel) (by rfl) (by rfl) (by omega) (by omega) (by omega) (by omega) rfl ?_
  refine jT_xifT (pcN := 47) jI_252_42 rfl (by decide +kernel) rfl ?_
  refine jT_xiload_n (v := (0, x2)) (pcN := 48) jI_252_47 rfl rfl rfl ?_
  refine jT_xaload_n (v := (4, 0)) (pcN := 49) jI_252_48 rfl rfl rfl ?_
  refine jT_xiload_n (v := (0, 3)) (pcN := 50) jI_252_49 rfl rfl rfl ?_
  refine jT_fR [0, 1, 2, 3, 4, 5, 6, 7, 8, 9, 10, 11, 12, 13, 14, 15] 24 (y := 245) (pcN := 53) (dC := 0) (bc1 := 0) (bc2 := 0) (c1 := 0) (c2 := 0) (as := [(4, 0), (0, 3)]) (asC := [(4, 0), (0, 3)]) (LN := [(0, (4, 0)), (1, (0, 3)), (2, (0, x2)), (3, (0, x3))]) (stN := [(0, x2)]) (hsC := jpA_1519) (v := (0, 1)) (st2 := [(0, 1), (0, x2)]) (jA_245_394 (d := 0)) (by rfl) (by rfl) (by decide +kernel) (by rfl) (by rfl) (by omega) (by omega) (by omega) (by omega) rfl ?_
  refine jT_fR [] 24 (y := 375) (pcN := 56) (dC := 0) (bc1 := 0) (bc2 := 0) (c1 := 0) (c2 := 0) (as := [(0, x2), (0, 1)]) (asC := [(0, x2), (0, 1)]) (LN := [(0, (4, 0)), (1, (0, 3)), (2, (0, x2)), (3, (0, x3))]) (stN := []) (hsC := []) (v := (0, x2 % 1)) (st2 := [(0, x2 % 1)]) (jT_fmI1 (d := 0) (x := x2) (by omega)) (by rfl) (by rfl) (by decide +kernel) (by rfl) (by rfl) (by omega) (by omega) (by omega) (by omega) rfl ?_
  refine jT_eq (LN := [(0, (4, 0)), (1, (0, 3)), (2, (0, x2)), (3, (0, x3))]) (stN := [(0, 0)]) (hsN := [jzA_21, (100, [], jS0), (100, [], []), jzA_196, jzA_197, jgh, jgh, (101, [], [0, 0, 0, 0, 0, 0]), jgh, jgh, jgh, jgh, jgh, jgh, jgh, jgh, (100, [], (List.replicate 1613 0)), jgh, jgh, jgh, jgh, jgh, jgh, jgh]) (rfl) (by simp only [List.cons.injEq, Prod.mk.injEq, and_true, true_and] <;> ((try unfold jw); (try unfold jwl); omega)) (rfl) ?_
  refine jT_xistore (v := (0, 0)) (LN := [(4, (0, 0)), (0, (4, 0)), (1, (0, 3)), (2, (0, x2)), (3, (0, x3))]) (pcN := 58) jI_252_56 rfl rfl rfl rfl ?_
  refine jT_xaload_n (v := (4, 0)) (pcN := 59) jI_252_58 rfl rfl rfl ?_
  refine jT_xaload_n (v := (4, 0)) (pcN := 60) jI_252_59 rfl rfl rfl ?_
  refine jT_xgetf (a := 0) (t := 1) (ci := 14) (fi := 1) (c := jzA_21) (v := (4, 1)) (pcN := 63) jI_252_60 rfl rfl rfl rfl rfl rfl rfl ?_
  refine jT_xiload_n (v := (0, 3)) (pcN := 64) jI_252_63 rfl rfl rfl ?_
  refine jT_xiload (v := (0, 0)) (pcN := 66) jI_252_64 rfl rfl rfl ?_
  refine jT_fR [] 24 (y := 242) (pcN := 69) (dC := 0) (bc1 := 0) (bc2 := 0) (c1 := 0) (c2 := 0) (as := [(0, 3), (0, 0)]) (asC := [(0, 3), (0, 0)]) (LN := [(4, (0, 0)), (0, (4, 0)), (1, (0, 3)), (2, (0, x2)), (3, (0, x3))]) (stN := [(4, 1), (4, 0)]) (hsC := []) (v := (0, 900)) (st2 := [(0, 900), (4, 1), (4, 0)]) (jA_242_395 (d := 0)) (by rfl) (by rfl) (by decide +kernel) (by rfl) (by rfl) (by omega) (by omega) (by omega) (by omega) rfl ?_
  refine jT_fR [0, 1, 2, 3, 4, 5, 6, 7, 8, 9, 10, 11, 12, 13, 14, 15] 24 (y := 203) (pcN := 72) (dC := 0) (bc1 := 0) (bc2 := 0) (c1 := 0) (c2 := 0) (as := [(4, 0), (4, 1), (0, 900)]) (asC := [(4, 0), (4, 1), (0, 900)]) (LN := [(4, (0, 0)), (0, (4, 0)), (1, (0, 3)), (2, (0, x2)), (3, (0, x3))]) (stN := []) (hsC := jpA_130) (v := (9, 0)) (st2 := []) (jA_203_398 (d := 0)) (by rfl) (by rfl) (by decide +kernel) (by rfl) (by rfl) (by omega) (by omega) (by omega) (by omega) rfl ?_
  refine jT_xaload_n (v := (4, 0)) (pcN := 73) jI_252_72 rfl rfl rfl ?_
  refine jT_xgetf (a := 0) (t := 1) (ci := 14) (fi := 9) (c := jzA_21) (v := (4, 7)) (pcN := 76) jI_252_73 rfl rfl rfl rfl rfl rfl rfl ?_
  refine jT_xiconst (k := 0) (pcN := 77) jI_252_76 rfl ?_
  refine jT_adv 1 (pcN := 78) (LN := [(4, (0, 0)), (0, (4, 0)), (1, (0, 3)), (2, (0, x2)), (3, (0, x3))]) (stN := [(0, 0), (4, 7), (0, 0), (4, 7)]) (hsN := jpA_248) (c1 := 0) (s1 := 0) (c2 := 0) (s2 := 0) (by exact rfl) ?_ (by omega) (by omega)
  refine jT_lald (x := 0) (a := 7) (j := 0) (fs := []) (X := [0, 0, 0, 0, 0, 0]) jI_252_78 rfl rfl rfl rfl ?_
  refine jT_eq (LN := [(4, (0, 0)), (0, (4, 0)), (1, (0, 3)), (2, (0, x2)), (3, (0, x3))]) (stN := [(1, 0), (0, 0), (4, 7)]) (hsN := jpA_248) rfl rfl rfl ?_
  refine jT_xaload_n (v := (4, 0)) (pcN := 80) jI_252_79 rfl rfl rfl ?_
  refine jT_xgetf (a := 0) (t := 1) (ci := 14) (fi := 10) (c := jzA_21) (v := (1, 1)) (pcN := 83) jI_252_80 rfl rfl rfl rfl rfl rfl rfl ?_
  refine jT_xiload_n (v := (0, x2)) (pcN := 84) jI_252_83 rfl rfl rfl ?_
  refine jT_xaload_n (v := (4, 0)) (pcN := 85) jI_252_84 rfl rfl rfl ?_
  refine jT_xiload_n (v := (0, 3)) (pcN := 86) jI_252_85 rfl rfl rfl ?_
  refine jT_fR [0, 1, 2, 3, 4, 5, 6, 7, 8, 9, 10, 11, 12, 13, 14, 15] 24 (y := 245) (pcN := 89) (dC := 0) (bc1 := 0) (bc2 := 0) (c1 := 0) (c2 := 0) (as := [(4, 0), (0, 3)]) (asC := [(4, 0), (0, 3)]) (LN := [(4, (0, 0)), (0, (4, 0)), (1, (0, 3)), (2, (0, x2)), (3, (0, x3))]) (stN := [(0, x2), (1, 1), (1, 0), (0, 0), (4, 7)]) (hsC := jpA_1519) (v := (0, 1)) (st2 := [(0, 1), (0, x2), (1, 1), (1, 0), (0, 0), (4, 7)]) (jA_245_394 (d := 0)) (by rfl) (by rfl) (by decide +kernel) (by rfl) (by rfl) (by omega) (by omega) (by omega) (by omega) rfl ?_
  refine jT_fR [] 24 (y := 376) (pcN := 92) (dC := 0) (bc1 := 0) (bc2 := 0) (c1 := 0) (c2 := 0) (as := [(0, x2), (0, 1)]) (asC := [(0, x2), (0, 1)]) (LN := [(4, (0, 0)), (0, (4, 0)), (1, (0, 3)), (2, (0, x2)), (3, (0, x3))]) (stN := [(1, 1), (1, 0), (0, 0), (4, 7)]) (hsC := []) (v := (0, x2 / 1)) (st2 := [(0, x2 / 1), (1, 1), (1, 0), (0, 0), (4, 7)]) (jT_fdI1 (d := 0) (x := x2) (by omega)) (by rfl) (by rfl) (by decide +kernel) (by rfl) (by rfl) (by omega) (by omega) (by omega) (by omega) rfl ?_
  refine jT_eq (LN := [(4, (0, 0)), (0, (4, 0)), (1, (0, 3)), (2, (0, x2)), (3, (0, x3))]) (stN := [(0, x2), (1, 1), (1, 0), (0, 0), (4, 7)]) (hsN := [jzA_21, (100, [], jS0), (100, [], []), jzA_196, jzA_197, jgh, jgh, (101, [], [0, 0, 0, 0, 0, 0]), jgh, jgh, jgh, jgh, jgh, jgh, jgh, jgh, (100, [], (List.replicate 1613 0)), jgh, jgh, jgh, jgh, jgh, jgh, jgh]) (rfl) (by simp only [List.cons.injEq, Prod.mk.injEq, and_true, true_and] <;> ((try unfold jw); (try unfold jwl); omega)) (rfl) ?_
  refine jT_xi2l (x := x2) (z := x2) (pcN := 93) jI_252_92 rfl (jw_idd (by omega) (by omega)) rfl ?_
  refine jT_xlmul (x := 1) (y := x2) (z := x2) (pcN := 94) jI_252_93 rfl (by omega) rfl ?_
  refine jT_xladd (x := 0) (y := x2) (z := x2) (pcN := 95) jI_252_94 rfl (by omega) rfl ?_
  refine jT_adv 1 (pcN := 96) (LN := [(4, (0, 0)), (0, (4, 0)), (1, (0, 3)), (2, (0, x2)), (3, (0, x3))]) (stN := []) (hsN := [jzA_21, (100, [], jS0), (100, [], []), jzA_196, jzA_197, jgh, jgh, (101, [], [x2, 0, 0, 0, 0, 0]), jgh, jgh, jgh, jgh, jgh, jgh, jgh, jgh, (100, [], (List.replicate 1613 0)), jgh, jgh, jgh, jgh, jgh, jgh, jgh]) (c1 := 0) (s1 := 0) (c2 := 0) (s2 := 0) (by exact rfl) ?_ (by omega) (by omega)
  refine jT_xaload_n (v := (4, 0)) (pcN := 97) jI_252_96 rfl rfl rfl ?_
  refine jT_xaload_n (v := (4, 0)) (pcN := 98) jI_252_97 rfl rfl rfl ?_
  refine jT_callA [0, 1, 2, 3, 4, 5, 6, 7, 8, 9, 10, 11, 12, 13, 14, 15] (y := 205) (pcN := 101) (dC := 1) (bc1 := 0) (bc2 := 0) (c1 := 0) (c2 := 0) (as := [(4, 0)]) (asC := [(4, 0)]) (LN := [(4, (0, 0)), (0, (4, 0)), (1, (0, 3)), (2, (0, x2)), (3, (0, x3))]) (stN := [(4, 0)]) (hsC := [jzA_21, jgh, jgh, jgh, jgh, jgh, jgh, (101, [], [x2, 0, 0, 0, 0, 0]), jgh, jgh, jgh, jgh, jgh, jgh, jgh, jgh]) (ex := []) (v := (0, 1)) (st2 := [(0, 1), (4, 0)]) (hs2 := [jzA_21, (100, [], jS0), (100, [], []), jzA_196, jzA_197, jgh, jgh, (101, [], [x2, 0, 0, 0, 0, 0]), jgh, jgh, jgh, jgh, jgh, jgh, jgh, jgh, (100, [], (List.replicate 1613 0)), jgh, jgh, jgh, jgh, jgh, jgh, jgh]) (jA_205_551 (d := 0) (by omega)) (by rfl) (by rfl) (by rfl) (by rfl) ⟨rfl, rfl, rfl, rfl, rfl, rfl, rfl, rfl, rfl, rfl, rfl, rfl, rfl, rfl, rfl, rfl, trivial⟩ (by rfl) (by rfl) (by omega) (by show 24 ≤ 24; omega) (by omega) (by omega) rfl rfl ?_
  refine jT_xiconst (k := 3) (pcN := 102) jI_252_101 rfl ?_
  refine jT_callA [0] (y := 191) (pcN := 105) (dC := 0) (bc1 := 0) (bc2 := 0) (c1 := 0) (c2 := 0) (as := [(4, 0), (0, 1), (0, 3)]) (asC := [(4, 0), (0, 1), (0, 3)]) (LN := [(4, (0, 0)), (0, (4, 0)), (1, (0, 3)), (2, (0, x2)), (3, (0, x3))]) (stN := []) (hsC := [jgh]) (ex := []) (v := (0, 0)) (st2 := [(0, 0)]) (hs2 := [jzA_21, (100, [], jS0), (100, [], []), jzA_196, jzA_197, jgh, jgh, (101, [], [x2, 0, 0, 0, 0, 0]), jgh, jgh, jgh, jgh, jgh, jgh, jgh, jgh, (100, [], (List.replicate 1613 0)), jgh, jgh, jgh, jgh, jgh, jgh, jgh]) (jA_191_117 (d := 0)) (by rfl) (by rfl) (by rfl) (by rfl) ⟨rfl, trivial⟩ (by rfl) (by rfl) (by omega) (by show 24 ≤ 24; omega) (by omega) (by omega) rfl rfl ?_
  refine jT_xifT (pcN := 110) jI_252_105 rfl (by decide +kernel) rfl ?_
  refine jT_xaload_n (v := (4, 0)) (pcN := 111) jI_252_110 rfl rfl rfl ?_
  refine jT_callB [0, 1, 2, 3, 4, 5, 6, 7, 8, 9, 10, 11, 12, 13, 14, 15, 16, 17, 18, 19, 20, 21, 22, 23] (y := 195) (pcN := 114) (dC := 0) (bc1 := 0) (bc2 := 0) (c1 := 0) (c2 := 0) (as := [(4, 0)]) (asC := [(4, 0)]) (LN := [(4, (0, 0)), (0, (4, 0)), (1, (0, 3)), (2, (0, x2)), (3, (0, x3))]) (stN := []) (hsC := jpA_198) (hsD := jpA_202) (v := (9, 0)) (st2 := []) (hs2 := [jzA_200, (100, [], jS0), (100, [], []), jzA_196, jzA_201, jgh, jgh, (101, [], [x2, 0, 0, 0, 0, 0]), jgh, jgh, jgh, jgh, jgh, jgh, jgh, jgh, (100, [], jS0), jgh, jgh, jgh, jgh, jgh, jgh, jgh]) (jA_195_50 (d := 0)) (by rfl) (by rfl) (by rfl) (by rfl) ⟨rfl, rfl, rfl, rfl, rfl, rfl, rfl, rfl, rfl, rfl, rfl, rfl, rfl, rfl, rfl, rfl, rfl, rfl, rfl, rfl, rfl, rfl, rfl, rfl, trivial⟩ (by rfl) (by rfl) (by omega) (by show 24 ≤ 24; omega) (by omega) (by omega) rfl rfl ?_
  refine jT_xaload_n (v := (4, 0)) (pcN := 115) jI_252_114 rfl rfl rfl ?_
  refine jT_xiload_n (v := (0, x3)) (pcN := 116) jI_252_115 rfl rfl rfl ?_
  refine jT_callB [0, 1, 2, 3, 4, 5, 6, 7, 8, 9, 10, 11, 12, 13, 14, 15] (y := 196) (pcN := 119) (dC := 1) (bc1 := 0) (bc2 := 0) (c1 := 0) (c2 := 0) (as := [(4, 0), (0, x3)]) (asC := [(4, 0), (0, x3)]) (LN := [(4, (0, 0)), (0, (4, 0)), (1, (0, 3)), (2, (0, x2)), (3, (0, x3))]) (stN := []) (hsC := [jzA_200, (100, [], jS0), jgh, jgh, jgh, jgh, jgh, (101, [], [x2, 0, 0, 0, 0, 0]), jgh, jgh, jgh, jgh, jgh, jgh, jgh, jgh]) (hsD := [jzA_200, (100, [], ((((((((((((((jS0).set ((7 * x3).toNat) x2)).set ((7 * x3 + 1).toNat) 0)).set ((7 * x3 + 2).toNat) 0)).set ((7 * x3 + 3).toNat) 0)).set ((7 * x3 + 4).toNat) 0)).set ((7 * x3 + 5).toNat) 0)).set ((7 * x3 + 6).toNat) 1)), jgh, jgh, jgh, jgh, jgh, (101, [], [x2, 0, 0, 0, 0, 0]), jgh, jgh, jgh, jgh, jgh, jgh, jgh, jgh]) (v := (0, 1)) (st2 := [(0, 1)]) (hs2 := [jzA_200, (100, [], ((((((((((((((jS0).set ((7 * x3).toNat) x2)).set ((7 * x3 + 1).toNat) 0)).set ((7 * x3 + 2).toNat) 0)).set ((7 * x3 + 3).toNat) 0)).set ((7 * x3 + 4).toNat) 0)).set ((7 * x3 + 5).toNat) 0)).set ((7 * x3 + 6).toNat) 1)), (100, [], []), jzA_196, jzA_201, jgh, jgh, (101, [], [x2, 0, 0, 0, 0, 0]), jgh, jgh, jgh, jgh, jgh, jgh, jgh, jgh, (100, [], jS0), jgh, jgh, jgh, jgh, jgh, jgh, jgh]) (jA_196_553 (d := 0) (by omega) (by omega)) (by rfl) (by rfl) (by rfl) (by rfl) ⟨rfl, rfl, rfl, rfl, rfl, rfl, rfl, rfl, rfl, rfl, rfl, rfl, rfl, rfl, rfl, rfl, trivial⟩ (by rfl) (by rfl) (by omega) (by show 24 ≤ 24; omega) (by omega) (by omega) rfl rfl ?_
  refine jT_adv 1 (pcN := 120) (LN := [(4, (0, 0)), (0, (4, 0)), (1, (0, 3)), (2, (0, x2)), (3, (0, x3))]) (stN := []) (hsN := [jzA_200, (100, [], ((((((((((((((jS0).set ((7 * x3).toNat) x2)).set ((7 * x3 + 1).toNat) 0)).set ((7 * x3 + 2).toNat) 0)).set ((7 * x3 + 3).toNat) 0)).set ((7 * x3 + 4).toNat) 0)).set ((7 * x3 + 5).toNat) 0)).set ((7 * x3 + 6).toNat) 1)), (100, [], []), jzA_196, jzA_201, jgh, jgh, (101, [], [x2, 0, 0, 0, 0, 0]), jgh, jgh, jgh, jgh, jgh, jgh, jgh, jgh, (100, [], jS0), jgh, jgh, jgh, jgh, jgh, jgh, jgh]) (c1 := 0) (s1 := 0) (c2 := 0) (s2 := 0) (by exact rfl) ?_ (by omega) (by omega)
  refine jT_xiload (v := (0, 0)) (pcN := 122) jI_252_120 rfl rfl rfl ?_
  exact jT_ret rfl (by decide) (by show 24 ≤ 24; decide) (by omega) (by omega) ⟨rfl, rfl, rfl⟩
def jpA_2297 : List JC := [jzA_5, jgh, jgh, jgh, jgh, jgh, jgh, jgh, jgh, jgh, jzA_79, jzA_88, jzA_89, (117, [], [18, 19, 20, 21]), jgh, jgh, jgh, (4, [(4, 22), (1, 1)], []), jgh, jgh, jgh, (7, [(4, 23), (4, (-1)), (4, (-1))], []), (101, [], [0, 0, 0, 0, 0, 0]), (114, [], [17]), (101, [], [0, 0, 0, 0, 0, 0]), (4, [(4, 24), (1, 1)], [])]
def jpA_2298 : List JC := [jzA_5, jgh, jgh, jgh, jgh, jgh, jgh, jgh, jgh, jgh, jzA_79, jzA_88, jzA_89, (117, [], [18, 19, 20, 21]), jgh, jgh, jgh, (4, [(4, 22), (1, 1)], []), jgh, jgh, jgh, (7, [(4, 23), (4, (-1)), (4, (-1))], []), (101, [], [0, 0, 0, 0, 0, 0]), (114, [], [17]), (101, [], [0, 0, 0, 0, 0, 0]), (4, [(4, 24), (1, 1)], []), jgh, jzA_2216]
def jpA_2299 : List JC := [jzA_2217, jgh, jgh, jgh, jgh, jgh, jgh, jgh, jgh, jgh, jzA_102, jzA_88, jzA_89, (117, [], [18, 19, 20, 21]), jgh, jgh, jgh, (4, [(4, 22), (1, 1)], []), jgh, jgh, jgh, (7, [(4, 23), (4, (-1)), (4, (-1))], []), (101, [], [0, 0, 0, 0, 0, 0]), (114, [], [17]), (101, [], [0, 0, 0, 0, 0, 0]), (4, [(4, 24), (1, 1)], []), jgh, jzA_2216]
theorem jA_132_600 {xs : List Int} {d : Nat} {x3 : Int} (h_x3 : 0 ≤ x3 ∧ x3 ≤ 7) : jT xs (d + 3) 132 24 0 [(0, (4, 0)), (1, (0, 3)), (2, (0, 0)), (3, (0, x3))] [] jpA_2295 4 21 (fun k v hsN => k = 0 ∧ v = (0, 0) ∧ hsN = jpA_2299) := by
  refine jT_xaload_n (v := (4, 0)) (pcN := 1) jI_132_0 rfl rfl rfl ?_
  refine jT_xiload_n (v := (0, 3)) (pcN := 2) jI_132_1 rfl rfl rfl ?_
  refine jT_xiconst (k := 4) (pcN := 3) jI_132_2 rfl ?_
  refine jT_fR [0] 24 (y := 115) (pcN := 6) (dC := 0) (bc1 := 0) (bc2 := 0) (c1 := 4) (c2 := 21) (as := [(4, 0), (0, 3), (0, 4)]) (asC := [(4, 0), (0, 3), (0, 4)]) (LN := [(0, (4, 0)), (1, (0, 3)), (2, (0, 0)), (3, (0, x3))]) (stN := []) (hsC := [jgh]) (v := (9, 0)) (st2 := []) (jA_115_387 (d := 0)) (by rfl) (by rfl) (by decide +kernel) (by rfl) (by rfl) (by omega) (by omega) (by omega) (by omega) rfl ?_
  refine jT_xaload_n (v := (4, 0)) (pcN := 7) jI_132_6 rfl rfl rfl ?_
  refine jT_xiload_n (v := (0, x3)) (pcN := 8) jI_132_7 rfl rfl rfl ?_
  refine jT_xbipush (k := 8) (pcN := 10) jI_132_8 (by decide) rfl ?_
  refine jT_fR [0] 24 (y := 115) (pcN := 13) (dC := 0) (bc1 := 0) (bc2 := 0) (c1 := 4) (c2 := 21) (as := [(4, 0), (0, x3), (0, 8)]) (asC := [(4, 0), (0, x3), (0, 8)]) (LN := [(0, (4, 0)), (1, (0, 3)), (2, (0, 0)), (3, (0, x3))]) (stN := []) (hsC := [jgh]) (v := (9, 0)) (st2 := []) (jA_115_23 (d := 0) (by omega)) (by rfl) (by rfl) (by decide +kernel) (by rfl) (by rfl) (by omega) (by omega) (by omega) (by omega) rfl ?_
  refine jT_xaload_n (v := (4, 0)) (pcN := 14) jI_132_13 rfl rfl rfl ?_
  refine jT_xiload_n (v := (0, 0)) (pcN := 15) jI_132_14 rfl rfl rfl ?_
  refine jT_xsipush (k := (-200)) (pcN := 18) jI_132_15 (by decide) rfl ?_
  refine jT_xsipush (k := 200) (pcN := 21) jI_132_18 (by decide) rfl ?_
  refine jT_fR [0] 24 (y := 116) (pcN := 24) (dC := 0) (bc1 := 0) (bc2 := 0) (c1 := 4) (c2 := 21) (as := [(4, 0), (0, 0), (0, (-200)), (0, 200)]) (asC := [(4, 0), (0, 0), (0, (-200)), (0, 200)]) (LN := [(0, (4, 0)), (1, (0, 3)), (2, (0, 0)), (3, (0, x3))]) (stN := []) (hsC := [jgh]) (v := (9, 0)) (st2 := []) (jA_116_559 (d := 0)) (by rfl) (by rfl) (by decide +kernel) (by rfl) (by rfl) (by omega) (by omega) (by omega) (by omega) rfl ?_
  refine jT_xaload_n (v := (4, 0)) (pcN := 25) jI_132_24 rfl rfl rfl ?_
  refine jT_xgetf (a := 0) (t := 1) (ci := 13) (fi := 11) (c := jzA_5) (v := (4, 11)) (pcN := 28) jI_132_25 rfl rfl rfl rfl rfl rfl rfl ?_
  refine jT_xiload_n (v := (0, 3)) (pcN := 29) jI_132_28 rfl rfl rfl ?_
  refine jT_fR [11, 12, 13, 14, 15, 16, 18, 19, 20, 21] 24 (y := 56) (pcN := 32) (dC := 0) (bc1 := 0) (bc2 := 0) (c1 := 4) (c2 := 21) (as := [(4, 11), (0, 3)]) (asC := [(4, 0), (0, 3)]) (LN := [(0, (4, 0)), (1, (0, 3)), (2, (0, 0)), (3, (0, x3))]) (stN := []) (hsC := jpA_1446) (v := (4, 9)) (st2 := [(4, 21)]) (jA_56_388 (d := 0)) (by rfl) (by rfl) (by decide +kernel) (by rfl) (by rfl) (by omega) (by omega) (by omega) (by omega) rfl ?_
  refine jT_xastore (v := (4, 21)) (LN := [(4, (4, 21)), (0, (4, 0)), (1, (0, 3)), (2, (0, 0)), (3, (0, x3))]) (pcN := 34) jI_132_32 rfl rfl rfl rfl ?_
  refine jT_xiconst (k := 1) (pcN := 35) jI_132_34 rfl ?_
  refine jT_xaload (v := (4, 21)) (pcN := 37) jI_132_35 rfl rfl rfl ?_
  refine jT_fR [21, 23, 17] 24 (y := 29) (pcN := 40) (dC := 0) (bc1 := 0) (bc2 := 0) (c1 := 4) (c2 := 21) (as := [(4, 21)]) (asC := [(4, 0)]) (LN := [(4, (4, 21)), (0, (4, 0)), (1, (0, 3)), (2, (0, 0)), (3, (0, x3))]) (stN := [(0, 1)]) (hsC := [(7, [(4, 1), (4, (-1)), (4, (-1))], []), (114, [], [2]), jgh]) (v := (0, 1)) (st2 := [(0, 1), (0, 1)]) (jA_29_416 (d := 0)) (by rfl) (by rfl) (by decide +kernel) (by rfl) (by rfl) (by omega) (by omega) (by omega) (by omega) rfl ?_
  refine jT_mm0 (x := 1) (y := 1) (z := 1) (by rfl) (by rfl) (by rfl) (by rfl) (jw_idd (by omega) (by omega)) (jw_idd (by omega) (by omega)) (by rw [decide_eq_false (show ¬ ((1 : Int) < 1) by omega)]; rfl) ?_
  refine jT_xistore (v := (0, 1)) (LN := [(5, (0, 1)), (4, (4, 21)), (0, (4, 0)), (1, (0, 3)), (2, (0, 0)), (3, (0, x3))]) (pcN := 45) jI_132_43 rfl rfl rfl rfl ?_
  refine jT_xiload_n (v := (0, 0)) (pcN := 46) jI_132_45 rfl rfl rfl ?_
  refine jT_xiload (v := (0, 1)) (pcN := 48) jI_132_46 rfl rfl rfl ?_
  refine jT_fR [] 24 (y := 375) (pcN := 51) (dC := 0) (bc1 := 0) (bc2 := 0) (c1 := 4) (c2 := 21) (as := [(0, 0), (0, 1)]) (asC := [(0, 0), (0, 1)]) (LN := [(5, (0, 1)), (4, (4, 21)), (0, (4, 0)), (1, (0, 3)), (2, (0, 0)), (3, (0, x3))]) (stN := []) (hsC := []) (v := (0, 0)) (st2 := [(0, 0)]) (jA_375_560 (d := 0)) (by rfl) (by rfl) (by decide +kernel) (by rfl) (by rfl) (by omega) (by omega) (by omega) (by omega) rfl ?_
  refine jT_xistore (v := (0, 0)) (LN := [(6, (0, 0)), (5, (0, 1)), (4, (4, 21)), (0, (4, 0)), (1, (0, 3)), (2, (0, 0)), (3, (0, x3))]) (pcN := 53) jI_132_51 rfl rfl rfl rfl ?_
  refine jT_xaload (v := (4, 21)) (pcN := 55) jI_132_53 rfl rfl rfl ?_
  refine jT_xiload (v := (0, 0)) (pcN := 57) jI_132_55 rfl rfl rfl ?_
  refine jT_fR [21, 23, 17] 24 (y := 30) (pcN := 60) (dC := 0) (bc1 := 0) (bc2 := 0) (c1 := 4) (c2 := 21) (as := [(4, 21), (0, 0)]) (asC := [(4, 0), (0, 0)]) (LN := [(6, (0, 0)), (5, (0, 1)), (4, (4, 21)), (0, (4, 0)), (1, (0, 3)), (2, (0, 0)), (3, (0, x3))]) (stN := []) (hsC := [(7, [(4, 1), (4, (-1)), (4, (-1))], []), (114, [], [2]), jgh]) (v := (4, 2)) (st2 := [(4, 17)]) (jA_30_538 (d := 0)) (by rfl) (by rfl) (by decide +kernel) (by rfl) (by rfl) (by omega) (by omega) (by omega) (by omega) rfl ?_
  refine jT_xlconst (z := 1) (pcN := 61) jI_132_60 rfl rfl ?_
  refine jT_xlconst (z := 1) (pcN := 62) jI_132_61 rfl rfl ?_
  refine jT_xiload_n (v := (0, 0)) (pcN := 63) jI_132_62 rfl rfl rfl ?_
  refine jT_xiload (v := (0, 1)) (pcN := 65) jI_132_63 rfl rfl rfl ?_
  refine jT_fR [] 24 (y := 376) (pcN := 68) (dC := 0) (bc1 := 0) (bc2 := 0) (c1 := 4) (c2 := 21) (as := [(0, 0), (0, 1)]) (asC := [(0, 0), (0, 1)]) (LN := [(6, (0, 0)), (5, (0, 1)), (4, (4, 21)), (0, (4, 0)), (1, (0, 3)), (2, (0, 0)), (3, (0, x3))]) (stN := [(1, 1), (1, 1), (4, 17)]) (hsC := []) (v := (0, 0)) (st2 := [(0, 0), (1, 1), (1, 1), (4, 17)]) (jA_376_561 (d := 0)) (by rfl) (by rfl) (by decide +kernel) (by rfl) (by rfl) (by omega) (by omega) (by omega) (by omega) rfl ?_
  refine jT_xi2l (x := 0) (z := 0) (pcN := 69) jI_132_68 rfl (by decide +kernel) rfl ?_
  refine jT_fA [17, 22] 24 (y := 10) (pcN := 72) (dC := 2) (bc1 := 2) (bc2 := 8) (c1 := 2) (c2 := 13) (as := [(4, 17), (1, 1), (1, 1), (1, 0)]) (asC := [(4, 0), (1, 1), (1, 1), (1, 0)]) (LN := [(6, (0, 0)), (5, (0, 1)), (4, (4, 21)), (0, (4, 0)), (1, (0, 3)), (2, (0, 0)), (3, (0, x3))]) (stN := []) (hsC := [(4, [(4, 1), (1, 1)], []), (101, [], [0, 0, 0, 0, 0, 0])]) (ex := [(101, [], [0, 0, 0, 0, 0, 0]), (4, [(4, 2), (1, 1)], [])]) (v := (4, 3)) (st2 := [(4, 25)]) (hs2 := jpA_2297) (jA_10_148 (d := 0)) (by rfl) (by rfl) (by decide +kernel) (by rfl) (by rfl) (by omega) (by omega) (by omega) (by omega) rfl (by decide +kernel) ?_
  refine jT_xastore (v := (4, 25)) (LN := [(7, (4, 25)), (6, (0, 0)), (5, (0, 1)), (4, (4, 21)), (0, (4, 0)), (1, (0, 3)), (2, (0, 0)), (3, (0, x3))]) (pcN := 74) jI_132_72 rfl rfl rfl rfl ?_
  refine jT_xaload_n (v := (4, 0)) (pcN := 75) jI_132_74 rfl rfl rfl ?_
  refine jT_xaload (v := (4, 25)) (pcN := 77) jI_132_75 rfl rfl rfl ?_
  refine jT_fR [0, 25, 24] 26 (y := 117) (pcN := 80) (dC := 2) (bc1 := 0) (bc2 := 0) (c1 := 2) (c2 := 13) (as := [(4, 0), (4, 25)]) (asC := [(4, 0), (4, 1)]) (LN := [(7, (4, 25)), (6, (0, 0)), (5, (0, 1)), (4, (4, 21)), (0, (4, 0)), (1, (0, 3)), (2, (0, 0)), (3, (0, x3))]) (stN := []) (hsC := [jgh, (4, [(4, 2), (1, 1)], []), (101, [], [0, 0, 0, 0, 0, 0])]) (v := (9, 0)) (st2 := []) (jA_117_31 (d := 0)) (by rfl) (by rfl) (by decide +kernel) (by rfl) (by rfl) (by omega) (by omega) (by omega) (by omega) rfl ?_
  refine jT_xaload_n (v := (4, 0)) (pcN := 81) jI_132_80 rfl rfl rfl ?_
  refine jT_xaload_n (v := (4, 0)) (pcN := 82) jI_132_81 rfl rfl rfl ?_
  refine jT_xgetf (a := 0) (t := 1) (ci := 13) (fi := 11) (c := jzA_5) (v := (4, 11)) (pcN := 85) jI_132_82 rfl rfl rfl rfl rfl rfl rfl ?_
  refine jT_xiload_n (v := (0, x3)) (pcN := 86) jI_132_85 rfl rfl rfl ?_
  refine jT_xaload (v := (4, 25)) (pcN := 88) jI_132_86 rfl rfl rfl ?_
  refine jT_fA [11, 25, 12, 13, 14, 15, 16, 24, 17] 26 (y := 58) (pcN := 91) (dC := 1) (bc1 := 2) (bc2 := 13) (c1 := 0) (c2 := 0) (as := [(4, 11), (0, x3), (4, 25)]) (asC := [(4, 0), (0, x3), (4, 1)]) (LN := [(7, (4, 25)), (6, (0, 0)), (5, (0, 1)), (4, (4, 21)), (0, (4, 0)), (1, (0, 3)), (2, (0, 0)), (3, (0, x3))]) (stN := [(4, 0)]) (hsC := jpA_74) (ex := [jgh, jzA_72]) (v := (4, 10)) (st2 := [(4, 27), (4, 0)]) (hs2 := jpA_2298) (jA_58_181 (d := 0) (by omega)) (by rfl) (by rfl) (by decide +kernel) (by rfl) (by rfl) (by omega) (by omega) (by omega) (by omega) rfl (by decide +kernel) ?_
  refine jT_fB [0, 27, 1, 2, 3, 4, 5, 6, 7, 8, 9, 10, 11, 12, 13, 14, 15, 16] 28 (y := 100) (pcN := 94) (dC := 0) (bc1 := 0) (bc2 := 0) (c1 := 0) (c2 := 0) (as := [(4, 0), (4, 27)]) (asC := [(4, 0), (4, 1)]) (LN := [(7, (4, 25)), (6, (0, 0)), (5, (0, 1)), (4, (4, 21)), (0, (4, 0)), (1, (0, 3)), (2, (0, 0)), (3, (0, x3))]) (stN := []) (hsC := jpA_80) (hsD := jpA_78) (v := (9, 0)) (st2 := []) (hs2 := jpA_2299) (jA_100_34 (d := 0)) (by rfl) (by rfl) (by decide +kernel) (by rfl) (by rfl) (by omega) (by omega) (by omega) (by omega) rfl (by decide +kernel) ?_
  refine jT_xiload (v := (0, 0)) (pcN := 96) jI_132_94 rfl rfl rfl ?_
  exact jT_ret rfl (by decide) (by show 24 ≤ 28; decide) (by omega) (by omega) ⟨rfl, rfl, rfl⟩
def jpA_2300 : List JC := [jzA_2220, (101, [], [0]), jgh, jgh, jgh, jgh, jgh, jgh, jgh, jgh, jgh, jzA_76, jzA_77, jzA_109, (117, [], [19, 20, 21, 22]), jgh, jgh, jgh, (4, [(4, 23), (1, 1)], []), jgh, jgh, jgh, (7, [(4, 24), (4, (-1)), (4, (-1))], []), (101, [], [0, 0, 0, 0, 0, 0]), (114, [], [18]), (101, [], [0, 0, 0, 0, 0, 0]), (4, [(4, 25), (1, 1)], []), jgh, jzA_2221]
theorem jA_339_601 {xs : List Int} {d : Nat} {x3 : Int} (h_x3 : 0 ≤ x3 ∧ x3 ≤ 7) : jT xs (d + 4) 339 25 0 [(0, (4, 0)), (1, (0, 3)), (2, (0, 0)), (3, (0, x3)), (4, (4, 1))] [] jpA_2296 4 21 (fun k v hsN => k = 0 ∧ v = (0, 0) ∧ hsN = jpA_2300) := by
  refine jT_xaload (v := (4, 1)) (pcN := 2) jI_339_0 rfl rfl rfl ?_
  refine jT_xiconst (k := 0) (pcN := 3) jI_339_2 rfl ?_
  refine jT_xaload_n (v := (4, 0)) (pcN := 4) jI_339_3 rfl rfl rfl ?_
  refine jT_xiload_n (v := (0, 3)) (pcN := 5) jI_339_4 rfl rfl rfl ?_
  refine jT_xiload_n (v := (0, 0)) (pcN := 6) jI_339_5 rfl rfl rfl ?_
  refine jT_xiload_n (v := (0, x3)) (pcN := 7) jI_339_6 rfl rfl rfl ?_
  refine jT_fB [0, 2, 3, 4, 5, 6, 7, 8, 9, 10, 11, 12, 13, 14, 15, 16, 17, 18, 19, 20, 21, 22, 23, 24] 25 (y := 132) (pcN := 10) (dC := 3) (bc1 := 4) (bc2 := 21) (c1 := 0) (c2 := 0) (as := [(4, 0), (0, 3), (0, 0), (0, x3)]) (asC := [(4, 0), (0, 3), (0, 0), (0, x3)]) (LN := [(0, (4, 0)), (1, (0, 3)), (2, (0, 0)), (3, (0, x3)), (4, (4, 1))]) (stN := [(0, 0), (4, 1)]) (hsC := jpA_2295) (hsD := jpA_2299) (v := (0, 0)) (st2 := [(0, 0), (0, 0), (4, 1)]) (hs2 := jpA_2300) (jA_132_600 (d := 0) (by omega)) (by rfl) (by rfl) (by decide +kernel) (by rfl) (by rfl) (by omega) (by omega) (by omega) (by omega) rfl (by decide +kernel) ?_
  refine jT_xi2l (x := 0) (z := 0) (pcN := 11) jI_339_10 rfl (by decide +kernel) rfl ?_
  refine jT_adv 1 (pcN := 12) (LN := [(0, (4, 0)), (1, (0, 3)), (2, (0, 0)), (3, (0, x3)), (4, (4, 1))]) (stN := []) (hsN := jpA_2300) (c1 := 0) (s1 := 0) (c2 := 0) (s2 := 0) (by exact rfl) ?_ (by omega) (by omega)
  refine jT_xgoto (pcN := 27) jI_339_12 rfl ?_
  refine jT_xiconst (k := 0) (pcN := 28) jI_339_27 rfl ?_
  exact jT_ret rfl (by decide) (by show 25 ≤ 29; decide) (by omega) (by omega) ⟨rfl, rfl, rfl⟩
theorem jA_252_602 {xs : List Int} {d : Nat} {x3 : Int} (h_x3 : 0 ≤ x3 ∧ x3 ≤ 7) : jT xs (d + 2) 252 24 0 [(0, (4, 0)), (1, (0, 3)), (2, (0, 0)), (3, (0, x3))] [] jpA_248 0 0 (fun k v hsN => k = 0 ∧ v = (0, 0) ∧ hsN = [jzA_200, (100, [], ((((((((((((((jS0).set ((7 * x3).toNat) 0)).set ((7 * x3 + 1).toNat) 0)).set ((7 * x3 + 2).toNat) 0)).set ((7 * x3 + 3).toNat) 0)).set ((7 * x3 + 4).toNat) 0)).set ((7 * x3 + 5).toNat) 0)).set ((7 * x3 + 6).toNat) 1)), (100, [], []), jzA_196, jzA_201, jgh, jgh, (101, [], [0, 0, 0, 0, 0, 0]), jgh, jgh, jgh, jgh, jgh, jgh, jgh, jgh, (100, [], jS0), jgh, jgh, jgh, jgh, jgh, jgh, jgh]) := by
  refine jT_xaload_n (v := (4, 0)) (pcN := 1) jI_252_0 rfl rfl rfl ?_
  refine jT_xiload_n (v := (0, 3)) (pcN := 2) jI_252_1 rfl rfl rfl ?_
  refine jT_fR [] 24 (y := 238) (pcN := 5) (dC := 1) (bc1 := 0) (bc2 := 0) (c1 := 0) (c2 := 0) (as := [(0, 3)]) (asC := [(0, 3)]) (LN := [(0, (4, 0)), (1, (0, 3)), (2, (0, 0)), (3, (0, x3))]) (stN := [(4, 0)]) (hsC := []) (v := (0, 1)) (st2 := [(0, 1), (4, 0)]) (jA_238_393 (d := 0)) (by rfl) (by rfl) (by decide +kernel) (by rfl) (by rfl) (by omega) (by omega) (by omega) (by omega) rfl ?_
  refine jT_xifF (t := 19) (pcN := 8) jI_252_5 rfl (by decide +kernel) rfl rfl ?_
  refine jT_xiload_n (v := (0, x3)) (pcN := 9) jI_252_8 rfl rfl rfl ?_
  refine jT_fR [] 24 (y := 188) (pcN := 12) (dC := 1) (bc1 := 0) (bc2 := 0) (c1 := 0) (c2 := 0) (as := [(0, x3)]) (asC := [(0, x3)]) (LN := [(0, (4, 0)), (1, (0, 3)), (2, (0, 0)), (3, (0, x3))]) (stN := [(4, 0)]) (hsC := []) (v := (0, 1)) (st2 := [(0, 1), (4, 0)]) (jA_188_37 (d := 0) (by omega)) (by rfl) (by rfl) (by decide +kernel) (by rfl) (by rfl) (by omega) (by omega) (by omega) (by omega) rfl ?_
  refine jT_xifF (t := 19) (pcN := 15) jI_252_12 rfl (by decide +kernel) rfl rfl ?_
  refine jT_xiconst (k := 1) (pcN := 16) jI_252_15 rfl ?_
  refine jT_xgoto (pcN := 20) jI_252_16 rfl ?_
  refine jT_fR [0, 1, 2, 3, 4, 5, 6, 7, 8, 9, 10, 11, 12, 13, 14, 15] 24 (y := 190) (pcN := 23) (dC := 1) (bc1 := 0) (bc2 := 0) (c1 := 0) (c2 := 0) (as := [(4, 0), (0, 1)]) (asC := [(4, 0), (0, 1)]) (LN := [(0, (4, 0)), (1, (0, 3)), (2, (0, 0)), (3, (0, x3))]) (stN := []) (hsC := jpA_22) (v := (0, 0)) (st2 := [(0, 0)]) (jA_190_39 (d := 0)) (by rfl) (by rfl) (by decide +kernel) (by rfl) (by rfl) (by omega) (by omega) (by omega) (by omega) rfl ?_
  refine jT_xifF (t := 45) (pcN := 26) jI_252_23 rfl (by decide +kernel) rfl rfl ?_
  refine jT_xaload_n (v := (4, 0)) (pcN := 27) jI_252_26 rfl rfl rfl ?_
  refine jT_xiload_n (v := (0, 0)) (pcN := 28) jI_252_27 rfl rfl rfl ?_
  refine jT_xi2l (x := 0) (z := 0) (pcN := 29) jI_252_28 rfl (by decide +kernel) rfl ?_
  refine jT_adv 2 (pcN := 35) (LN := [(0, (4, 0)), (1, (0, 3)), (2, (0, 0)), (3, (0, x3))]) (stN := [(1, 200), (1, (-200)), (1, 0), (4, 0)]) (hsN := jpA_248) (c1 := 0) (s1 := 0) (c2 := 0) (s2 := 0) (by exact rfl) ?_ (by omega) (by omega)
  refine jT_fR [] 24 (y := 189) (pcN := 38) (dC := 0) (bc1 := 0) (bc2 := 0) (c1 := 0) (c2 := 0) (as := [(1, 0), (1, (-200)), (1, 200)]) (asC := [(1, 0), (1, (-200)), (1, 200)]) (LN := [(0, (4, 0)), (1, (0, 3)), (2, (0, 0)), (3, (0, x3))]) (stN := [(4, 0)]) (hsC := []) (v := (0, 1)) (st2 := [(0, 1), (4, 0)]) (jA_189_564 (d := 0)) (by rfl) (by rfl) (by decide +kernel) (by rfl) (by rfl) (by omega) (by omega) (by omega) (by omega) rfl ?_
  refine jT_xiconst (k := 2) (pcN := 39) jI_252_38 rfl ?_
  refine jT_fR [0] 24 (y := 191) (pcN := 42) (dC := 0) (bc1 := 0) (bc2 := 0) (c1 := 0) (c2 := 0) (as := [(4, 0), (0, 1), (0, 2)]) (asC := [(4, 0), (0, 1), (0, 2)]) (LN := [(0, (4, 0)), (1, (0, 3)), (2, (0, 0)), (3, (0, x3))]) (stN := []) (hsC := [jgh]) (v := (0, 0)) (st2 := [(0, 0)]) (jA_191_49 (d := 0)) (by rfl) (by rfl) (by decide +kernel) (by rfl) (by rfl) (by omega) (by omega) (by omega) (by omega) rfl ?_
  refine jT_xifT (pcN := 47) jI_252_42 rfl (by decide +kernel) rfl ?_
  refine jT_xiload_n (v := (0, 0)) (pcN := 48) jI_252_47 rfl rfl rfl ?_
  refine jT_xaload_n (v := (4, 0)) (pcN := 49) jI_252_48 rfl rfl rfl ?_
  refine jT_xiload_n (v := (0, 3)) (pcN := 50) jI_252_49 rfl rfl rfl ?_
  refine jT_fR [0, 1, 2, 3, 4, 5, 6, 7, 8, 9, 10, 11, 12, 13, 14, 15] 24 (y := 245) (pcN := 53) (dC := 0) (bc1 := 0) (bc2 := 0) (c1 := 0) (c2 := 0) (as := [(4, 0), (0, 3)]) (asC := [(4, 0), (0, 3)]) (LN := [(0, (4, 0)), (1, (0, 3)), (2, (0, 0)), (3, (0, x3))]) (stN := [(0, 0)]) (hsC := jpA_1519) (v := (0, 1)) (st2 := [(0, 1), (0, 0)]) (jA_245_394 (d := 0)) (by rfl) (by rfl) (by decide +kernel) (by rfl) (by rfl) (by omega) (by omega) (by omega) (by omega) rfl ?_
  refine jT_fR [] 24 (y := 375) (pcN := 56) (dC := 0) (bc1 := 0) (bc2 := 0) (c1 := 0) (c2 := 0) (as := [(0, 0), (0, 1)]) (asC := [(0, 0), (0, 1)]) (LN := [(0, (4, 0)), (1, (0, 3)), (2, (0, 0)), (3, (0, x3))]) (stN := []) (hsC := []) (v := (0, 0)) (st2 := [(0, 0)]) (jA_375_560 (d := 0)) (by rfl) (by rfl) (by decide +kernel) (by rfl) (by rfl) (by omega) (by omega) (by omega) (by omega) rfl ?_
  refine jT_xistore (v := (0, 0)) (LN := [(4, (0, 0)), (0, (4, 0)), (1, (0, 3)), (2, (0, 0)), (3, (0, x3))]) (pcN := 58) jI_252_56 rfl rfl rfl rfl ?_
  refine jT_xaload_n (v := (4, 0)) (pcN := 59) jI_252_58 rfl rfl rfl ?_
  refine jT_xaload_n (v := (4, 0)) (pcN := 60) jI_252_59 rfl rfl rfl ?_
  refine jT_xgetf (a := 0) (t := 1) (ci := 14) (fi := 1) (c := jzA_21) (v := (4, 1)) (pcN := 63) jI_252_60 rfl rfl rfl rfl rfl rfl rfl ?_
  refine jT_xiload_n (v := (0, 3)) (pcN := 64) jI_252_63 rfl rfl rfl ?_
  refine jT_xiload (v := (0, 0)) (pcN := 66) jI_252_64 rfl rfl rfl ?_
  refine jT_fR [] 24 (y := 242) (pcN := 69) (dC := 0) (bc1 := 0) (bc2 := 0) (c1 := 0) (c2 := 0) (as := [(0, 3), (0, 0)]) (asC := [(0, 3), (0, 0)]) (LN := [(4, (0, 0)), (0, (4, 0)), (1, (0, 3)), (2, (0, 0)), (3, (0, x3))]) (stN := [(4, 1), (4, 0)]) (hsC := []) (v := (0, 900)) (st2 := [(0, 900), (4, 1), (4, 0)]) (jA_242_395 (d := 0)) (by rfl) (by rfl) (by decide +kernel) (by rfl) (by rfl) (by omega) (by omega) (by omega) (by omega) rfl ?_
  refine jT_fR [0, 1, 2, 3, 4, 5, 6, 7, 8, 9, 10, 11, 12, 13, 14, 15] 24 (y := 203) (pcN := 72) (dC := 0) (bc1 := 0) (bc2 := 0) (c1 := 0) (c2 := 0) (as := [(4, 0), (4, 1), (0, 900)]) (asC := [(4, 0), (4, 1), (0, 900)]) (LN := [(4, (0, 0)), (0, (4, 0)), (1, (0, 3)), (2, (0, 0)), (3, (0, x3))]) (stN := []) (hsC := jpA_130) (v := (9, 0)) (st2 := []) (jA_203_398 (d := 0)) (by rfl) (by rfl) (by decide +kernel) (by rfl) (by rfl) (by omega) (by omega) (by omega) (by omega) rfl ?_
  refine jT_xaload_n (v := (4, 0)) (pcN := 73) jI_252_72 rfl rfl rfl ?_
  refine jT_xgetf (a := 0) (t := 1) (ci := 14) (fi := 9) (c := jzA_21) (v := (4, 7)) (pcN := 76) jI_252_73 rfl rfl rfl rfl rfl rfl rfl ?_
  refine jT_xiconst (k := 0) (pcN := 77) jI_252_76 rfl ?_
  refine jT_adv 1 (pcN := 78) (LN := [(4, (0, 0)), (0, (4, 0)), (1, (0, 3)), (2, (0, 0)), (3, (0, x3))]) (stN := [(0, 0), (4, 7), (0, 0), (4, 7)]) (hsN := jpA_248) (c1 := 0) (s1 := 0) (c2 := 0) (s2 := 0) (by exact rfl) ?_ (by omega) (by omega)
  refine jT_lald (x := 0) (a := 7) (j := 0) (fs := []) (X := [0, 0, 0, 0, 0, 0]) jI_252_78 rfl rfl rfl rfl ?_
  refine jT_eq (LN := [(4, (0, 0)), (0, (4, 0)), (1, (0, 3)), (2, (0, 0)), (3, (0, x3))]) (stN := [(1, 0), (0, 0), (4, 7)]) (hsN := jpA_248) rfl rfl rfl ?_
  refine jT_xaload_n (v := (4, 0)) (pcN := 80) jI_252_79 rfl rfl rfl ?_
  refine jT_xgetf (a := 0) (t := 1) (ci := 14) (fi := 10) (c := jzA_21) (v := (1, 1)) (pcN := 83) jI_252_80 rfl rfl rfl rfl rfl rfl rfl ?_
  refine jT_xiload_n (v := (0, 0)) (pcN := 84) jI_252_83 rfl rfl rfl ?_
  refine jT_xaload_n (v := (4, 0)) (pcN := 85) jI_252_84 rfl rfl rfl ?_
  refine jT_xiload_n (v := (0, 3)) (pcN := 86) jI_252_85 rfl rfl rfl ?_
  refine jT_fR [0, 1, 2, 3, 4, 5, 6, 7, 8, 9, 10, 11, 12, 13, 14, 15] 24 (y := 245) (pcN := 89) (dC := 0) (bc1 := 0) (bc2 := 0) (c1 := 0) (c2 := 0) (as := [(4, 0), (0, 3)]) (asC := [(4, 0), (0, 3)]) (LN := [(4, (0, 0)), (0, (4, 0)), (1, (0, 3)), (2, (0, 0)), (3, (0, x3))]) (stN := [(0, 0), (1, 1), (1, 0), (0, 0), (4, 7)]) (hsC := jpA_1519) (v := (0, 1)) (st2 := [(0, 1), (0, 0), (1, 1), (1, 0), (0, 0), (4, 7)]) (jA_245_394 (d := 0)) (by rfl) (by rfl) (by decide +kernel) (by rfl) (by rfl) (by omega) (by omega) (by omega) (by omega) rfl ?_
  refine jT_fR [] 24 (y := 376) (pcN := 92) (dC := 0) (bc1 := 0) (bc2 := 0) (c1 := 0) (c2 := 0) (as := [(0, 0), (0, 1)]) (asC := [(0, 0), (0, 1)]) (LN := [(4, (0, 0)), (0, (4, 0)), (1, (0, 3)), (2, (0, 0)), (3, (0, x3))]) (stN := [(1, 1), (1, 0), (0, 0), (4, 7)]) (hsC := []) (v := (0, 0)) (st2 := [(0, 0), (1, 1), (1, 0), (0, 0), (4, 7)]) (jA_376_561 (d := 0)) (by rfl) (by rfl) (by decide +kernel) (by rfl) (by rfl) (by omega) (by omega) (by omega) (by omega) rfl ?_
  refine jT_xi2l (x := 0) (z := 0) (pcN := 93) jI_252_92 rfl (by decide +kernel) rfl ?_
  refine jT_xlmul (x := 1) (y := 0) (z := 0) (pcN := 94) jI_252_93 rfl (by decide) rfl ?_
  refine jT_xladd (x := 0) (y := 0) (z := 0) (pcN := 95) jI_252_94 rfl (by decide) rfl ?_
  refine jT_adv 1 (pcN := 96) (LN := [(4, (0, 0)), (0, (4, 0)), (1, (0, 3)), (2, (0, 0)), (3, (0, x3))]) (stN := []) (hsN := jpA_248) (c1 := 0) (s1 := 0) (c2 := 0) (s2 := 0) (by exact rfl) ?_ (by omega) (by omega)
  refine jT_xaload_n (v := (4, 0)) (pcN := 97) jI_252_96 rfl rfl rfl ?_
  refine jT_xaload_n (v := (4, 0)) (pcN := 98) jI_252_97 rfl rfl rfl ?_
  refine jT_fR [0, 1, 2, 3, 4, 5, 6, 7, 8, 9, 10, 11, 12, 13, 14, 15] 24 (y := 205) (pcN := 101) (dC := 1) (bc1 := 0) (bc2 := 0) (c1 := 0) (c2 := 0) (as := [(4, 0)]) (asC := [(4, 0)]) (LN := [(4, (0, 0)), (0, (4, 0)), (1, (0, 3)), (2, (0, 0)), (3, (0, x3))]) (stN := [(4, 0)]) (hsC := jpA_147) (v := (0, 1)) (st2 := [(0, 1), (4, 0)]) (jA_205_48 (d := 0)) (by rfl) (by rfl) (by decide +kernel) (by rfl) (by rfl) (by omega) (by omega) (by omega) (by omega) rfl ?_
  refine jT_xiconst (k := 3) (pcN := 102) jI_252_101 rfl ?_
  refine jT_fR [0] 24 (y := 191) (pcN := 105) (dC := 0) (bc1 := 0) (bc2 := 0) (c1 := 0) (c2 := 0) (as := [(4, 0), (0, 1), (0, 3)]) (asC := [(4, 0), (0, 1), (0, 3)]) (LN := [(4, (0, 0)), (0, (4, 0)), (1, (0, 3)), (2, (0, 0)), (3, (0, x3))]) (stN := []) (hsC := [jgh]) (v := (0, 0)) (st2 := [(0, 0)]) (jA_191_117 (d := 0)) (by rfl) (by rfl) (by decide +kernel) (by rfl) (by rfl) (by omega) (by omega) (by omega) (by omega) rfl ?_
  refine jT_xifT (pcN := 110) jI_252_105 rfl (by decide +kernel) rfl ?_
  refine jT_xaload_n (v := (4, 0)) (pcN := 111) jI_252_110 rfl rfl rfl ?_
  refine jT_fB [0, 1, 2, 3, 4, 5, 6, 7, 8, 9, 10, 11, 12, 13, 14, 15, 16, 17, 18, 19, 20, 21, 22, 23] 24 (y := 195) (pcN := 114) (dC := 0) (bc1 := 0) (bc2 := 0) (c1 := 0) (c2 := 0) (as := [(4, 0)]) (asC := [(4, 0)]) (LN := [(4, (0, 0)), (0, (4, 0)), (1, (0, 3)), (2, (0, 0)), (3, (0, x3))]) (stN := []) (hsC := jpA_198) (hsD := jpA_202) (v := (9, 0)) (st2 := []) (hs2 := jpA_255) (jA_195_50 (d := 0)) (by rfl) (by rfl) (by decide +kernel) (by rfl) (by rfl) (by omega) (by omega) (by omega) (by omega) rfl (by decide +kernel) ?_
  refine jT_xaload_n (v := (4, 0)) (pcN := 115) jI_252_114 rfl rfl rfl ?_
  refine jT_xiload_n (v := (0, x3)) (pcN := 116) jI_252_115 rfl rfl rfl ?_
  refine jT_fB [0, 1, 2, 3, 4, 5, 6, 7, 8, 9, 10, 11, 12, 13, 14, 15] 24 (y := 196) (pcN := 119) (dC := 1) (bc1 := 0) (bc2 := 0) (c1 := 0) (c2 := 0) (as := [(4, 0), (0, x3)]) (asC := [(4, 0), (0, x3)]) (LN := [(4, (0, 0)), (0, (4, 0)), (1, (0, 3)), (2, (0, 0)), (3, (0, x3))]) (stN := []) (hsC := jpA_216) (hsD := [jzA_200, (100, [], ((((((((((((((jS0).set ((7 * x3).toNat) 0)).set ((7 * x3 + 1).toNat) 0)).set ((7 * x3 + 2).toNat) 0)).set ((7 * x3 + 3).toNat) 0)).set ((7 * x3 + 4).toNat) 0)).set ((7 * x3 + 5).toNat) 0)).set ((7 * x3 + 6).toNat) 1)), jgh, jgh, jgh, jgh, jgh, (101, [], [0, 0, 0, 0, 0, 0]), jgh, jgh, jgh, jgh, jgh, jgh, jgh, jgh]) (v := (0, 1)) (st2 := [(0, 1)]) (hs2 := [jzA_200, (100, [], ((((((((((((((jS0).set ((7 * x3).toNat) 0)).set ((7 * x3 + 1).toNat) 0)).set ((7 * x3 + 2).toNat) 0)).set ((7 * x3 + 3).toNat) 0)).set ((7 * x3 + 4).toNat) 0)).set ((7 * x3 + 5).toNat) 0)).set ((7 * x3 + 6).toNat) 1)), (100, [], []), jzA_196, jzA_201, jgh, jgh, (101, [], [0, 0, 0, 0, 0, 0]), jgh, jgh, jgh, jgh, jgh, jgh, jgh, jgh, (100, [], jS0), jgh, jgh, jgh, jgh, jgh, jgh, jgh]) (jA_196_194 (d := 0) (by omega)) (by rfl) (by rfl) (by decide +kernel) (by rfl) (by rfl) (by omega) (by omega) (by omega) (by omega) rfl rfl ?_
  refine jT_adv 1 (pcN := 120) (LN := [(4, (0, 0)), (0, (4, 0)), (1, (0, 3)), (2, (0, 0)), (3, (0, x3))]) (stN := []) (hsN := [jzA_200, (100, [], ((((((((((((((jS0).set ((7 * x3).toNat) 0)).set ((7 * x3 + 1).toNat) 0)).set ((7 * x3 + 2).toNat) 0)).set ((7 * x3 + 3).toNat) 0)).set ((7 * x3 + 4).toNat) 0)).set ((7 * x3 + 5).toNat) 0)).set ((7 * x3 + 6).toNat) 1)), (100, [], []), jzA_196, jzA_201, jgh, jgh, (101, [], [0, 0, 0, 0, 0, 0]), jgh, jgh, jgh, jgh, jgh, jgh, jgh, jgh, (100, [], jS0), jgh, jgh, jgh, jgh, jgh, jgh, jgh]) (c1 := 0) (s1 := 0) (c2 := 0) (s2 := 0) (by exact rfl) ?_ (by omega) (by omega)
  refine jT_xiload (v := (0, 0)) (pcN := 122) jI_252_120 rfl rfl rfl ?_
  exact jT_ret rfl (by decide) (by show 24 ≤ 24; decide) (by omega) (by omega) ⟨rfl, rfl, rfl⟩
theorem jA_132_603 {xs : List Int} {d : Nat} {x2 x3 : Int} (h_x2 : 1 ≤ x2 ∧ x2 ≤ 200) (h_x3 : 0 ≤ x3 ∧ x3 ≤ 7) : jT xs (d + 3) 132 24 0 [(0, (4, 0)), (1, (0, 3)), (2, (0, x2)), (3, (0, x3))] [] jpA_2295 4 21 (fun k v hsN => k = 0 ∧ v = (0, 0) ∧ hsN = [jzA_2217, jgh, jgh, jgh, jgh, jgh, jgh, jgh, jgh, jgh, jzA_102, jzA_88, jzA_89, (117, [], [18, 19, 20, 21]), jgh, jgh, jgh, (4, [(4, 22), (1, 1)], []), jgh, jgh, jgh, (7, [(4, 23), (4, (-1)), (4, (-1))], []), (101, [], [0, 0, 0, 0, 0, 0]), (114, [], [17]), (101, [], [x2, 0, 0, 0, 0, 0]), (4, [(4, 24), (1, 1)], []), jgh, jzA_2216]) := by
  refine jT_xaload_n (v := (4, 0)) (pcN := 1) jI_132_0 rfl rfl rfl ?_
  refine jT_xiload_n (v := (0, 3)) (pcN := 2) jI_132_1 rfl rfl rfl ?_
  refine jT_xiconst (k := 4) (pcN := 3) jI_132_2 rfl ?_
  refine jT_fR [0] 24 (y := 115) (pcN := 6) (dC := 0) (bc1 := 0) (bc2 := 0) (c1 := 4) (c2 := 21) (as := [(4, 0), (0, 3), (0, 4)]) (asC := [(4, 0), (0, 3), (0, 4)]) (LN := [(0, (4, 0)), (1, (0, 3)), (2, (0, x2)), (3, (0, x3))]) (stN := []) (hsC := [jgh]) (v := (9, 0)) (st2 := []) (jA_115_387 (d := 0)) (by rfl) (by rfl) (by decide +kernel) (by rfl) (by rfl) (by omega) (by omega) (by omega) (by omega) rfl ?_
  refine jT_xaload_n (v := (4, 0)) (pcN := 7) jI_132_6 rfl rfl rfl ?_
  refine jT_xiload_n (v := (0, x3)) (pcN := 8) jI_132_7 rfl rfl rfl ?_
  refine jT_xbipush (k := 8) (pcN := 10) jI_132_8 (by decide) rfl ?_
  refine jT_fR [0] 24 (y := 115) (pcN := 13) (dC := 0) (bc1 := 0) (bc2 := 0) (c1 := 4) (c2 := 21) (as := [(4, 0), (0, x3), (0, 8)]) (asC := [(4, 0), (0, x3), (0, 8)]) (LN := [(0, (4, 0)), (1, (0, 3)), (2, (0, x2)), (3, (0, x3))]) (stN := []) (hsC := [jgh]) (v := (9, 0)) (st2 := []) (jA_115_23 (d := 0) (by omega)) (by rfl) (by rfl) (by decide +kernel) (by rfl) (by rfl) (by omega) (by omega) (by omega) (by omega) rfl ?_
  refine jT_xaload_n (v := (4, 0)) (pcN := 14) jI_132_13 rfl rfl rfl ?_
  refine jT_xiload_n (v := (0, x2)) (pcN := 15) jI_132_14 rfl rfl rfl ?_
  refine jT_xsipush (k := (-200)) (pcN := 18) jI_132_15 (by decide) rfl ?_
  refine jT_xsipush (k := 200) (pcN := 21) jI_132_18 (by decide) rfl ?_
  refine jT_fR [0] 24 (y := 116) (pcN := 24) (dC := 0) (bc1 := 0) (bc2 := 0) (c1 := 4) (c2 := 21) (as := [(4, 0), (0, x2), (0, (-200)), (0, 200)]) (asC := [(4, 0), (0, x2), (0, (-200)), (0, 200)]) (LN := [(0, (4, 0)), (1, (0, 3)), (2, (0, x2)), (3, (0, x3))]) (stN := []) (hsC := [jgh]) (v := (9, 0)) (st2 := []) (jA_116_566 (d := 0) (by omega)) (by rfl) (by rfl) (by decide +kernel) (by rfl) (by rfl) (by omega) (by omega) (by omega) (by omega) rfl ?_
  refine jT_xaload_n (v := (4, 0)) (pcN := 25) jI_132_24 rfl rfl rfl ?_
  refine jT_xgetf (a := 0) (t := 1) (ci := 13) (fi := 11) (c := jzA_5) (v := (4, 11)) (pcN := 28) jI_132_25 rfl rfl rfl rfl rfl rfl rfl ?_
  refine jT_xiload_n (v := (0, 3)) (pcN := 29) jI_132_28 rfl rfl rfl ?_
  refine jT_fR [11, 12, 13, 14, 15, 16, 18, 19, 20, 21] 24 (y := 56) (pcN := 32) (dC := 0) (bc1 := 0) (bc2 := 0) (c1 := 4) (c2 := 21) (as := [(4, 11), (0, 3)]) (asC := [(4, 0), (0, 3)]) (LN := [(0, (4, 0)), (1, (0, 3)), (2, (0, x2)), (3, (0, x3))]) (stN := []) (hsC := jpA_1446) (v := (4, 9)) (st2 := [(4, 21)]) (jA_56_388 (d := 0)) (by rfl) (by rfl) (by decide +kernel) (by rfl) (by rfl) (by omega) (by omega) (by omega) (by omega) rfl ?_
  refine jT_xastore (v := (4, 21)) (LN := [(4, (4, 21)), (0, (4, 0)), (1, (0, 3)), (2, (0, x2)), (3, (0, x3))]) (pcN := 34) jI_132_32 rfl rfl rfl rfl ?_
  refine jT_xiconst (k := 1) (pcN := 35) jI_132_34 rfl ?_
  refine jT_xaload (v := (4, 21)) (pcN := 37) jI_132_35 rfl rfl rfl ?_
  refine jT_fR [21, 23, 17] 24 (y := 29) (pcN := 40) (dC := 0) (bc1 := 0) (bc2 := 0) (c1 := 4) (c2 := 21) (as := [(4, 21)]) (asC := [(4, 0)]) (LN := [(4, (4, 21)), (0, (4, 0)), (1, (0, 3)), (2, (0, x2)), (3, (0, x3))]) (stN := [(0, 1)]) (hsC := [(7, [(4, 1), (4, (-1)), (4, (-1))], []), (114, [], [2]), jgh]) (v := (0, 1)) (st2 := [(0, 1), (0, 1)]) (jA_29_416 (d := 0)) (by rfl) (by rfl) (by decide +kernel) (by rfl) (by rfl) (by omega) (by omega) (by omega) (by omega) rfl ?_
  refine jT_mm0 (x := 1) (y := 1) (z := 1) (by rfl) (by rfl) (by rfl) (by rfl) (jw_idd (by omega) (by omega)) (jw_idd (by omega) (by omega)) (by rw [decide_eq_false (show ¬ ((1 : Int) < 1) by omega)]; rfl) ?_
  refine jT_xistore (v := (0, 1)) (LN := [(5, (0, 1)), (4, (4, 21)), (0, (4, 0)), (1, (0, 3)), (2, (0, x2)), (3, (0, x3))]) (pcN := 45) jI_132_43 rfl rfl rfl rfl ?_
  refine jT_xiload_n (v := (0, x2)) (pcN := 46) jI_132_45 rfl rfl rfl ?_
  refine jT_xiload (v := (0, 1)) (pcN := 48) jI_132_46 rfl rfl rfl ?_
  refine jT_fR [] 24 (y := 375) (pcN := 51) (dC := 0) (bc1 := 0) (bc2 := 0) (c1 := 4) (c2 := 21) (as := [(0, x2), (0, 1)]) (asC := [(0, x2), (0, 1)]) (LN := [(5, (0, 1)), (4, (4, 21)), (0, (4, 0)), (1, (0, 3)), (2, (0, x2)), (3, (0, x3))]) (stN := []) (hsC := []) (v := (0, x2 % 1)) (st2 := [(0, x2 % 1)]) (jT_fmI1 (d := 0) (x := x2) (by omega)) (by rfl) (by rfl) (by decide +kernel) (by rfl) (by rfl) (by omega) (by omega) (by omega) (by omega) rfl ?_
  refine jT_eq (LN := [(5, (0, 1)), (4, (4, 21)), (0, (4, 0)), (1, (0, 3)), (2, (0, x2)), (3, (0, x3))]) (stN := [(0, 0)]) (hsN := [jzA_5, jgh, jgh, jgh, jgh, jgh, jgh, jgh, jgh, jgh, jzA_79, jzA_88, jzA_89, (117, [], [18, 19, 20, 21]), jgh, jgh, jgh, (4, [(4, 22), (1, 1)], []), jgh, jgh, jgh, (7, [(4, 23), (4, (-1)), (4, (-1))], []), (101, [], [0, 0, 0, 0, 0, 0]), (114, [], [17])]) (rfl) (by simp only [List.cons.injEq, Prod.mk.injEq, and_true, true_and] <;> ((try unfold jw); (try unfold jwl); omega)) (rfl) ?_
  refine jT_xistore (v := (0, 0)) (LN := [(6, (0, 0)), (5, (0, 1)), (4, (4, 21)), (0, (4, 0)), (1, (0, 3)), (2, (0, x2)), (3, (0, x3))]) (pcN := 53) jI_132_51 rfl rfl rfl rfl ?_
  refine jT_xaload (v := (4, 21)) (pcN := 55) jI_132_53 rfl rfl rfl ?_
  refine jT_xiload (v := (0, 0)) (pcN := 57) jI_132_55 rfl rfl rfl ?_
  refine jT_fR [21, 23, 17] 24 (y := 30) (pcN := 60) (dC := 0) (bc1 := 0) (bc2 := 0) (c1 := 4) (c2 := 21) (as := [(4, 21), (0, 0)]) (asC := [(4, 0), (0, 0)]) (LN := [(6, (0, 0)), (5, (0, 1)), (4, (4, 21)), (0, (4, 0)), (1, (0, 3)), (2, (0, x2)), (3, (0, x3))]) (stN := []) (hsC := [(7, [(4, 1), (4, (-1)), (4, (-1))], []), (114, [], [2]), jgh]) (v := (4, 2)) (st2 := [(4, 17)]) (jA_30_538 (d := 0)) (by rfl) (by rfl) (by decide +kernel) (by rfl) (by rfl) (by omega) (by omega) (by omega) (by omega) rfl ?_
  refine jT_xlconst (z := 1) (pcN := 61) jI_132_60 rfl rfl ?_
  refine jT_xlconst (z := 1) (pcN := 62) jI_132_61 rfl rfl ?_
  refine jT_xiload_n (v := (0, x2)) (pcN := 63) jI_132_62 rfl rfl rfl ?_
  refine jT_xiload (v := (0, 1)) (pcN := 65) jI_132_63 rfl rfl rfl ?_
  refine jT_fR [] 24 (y := 376) (pcN := 68) (dC := 0) (bc1 := 0) (bc2 := 0) (c1 := 4) (c2 := 21) (as := [(0, x2), (0, 1)]) (asC := [(0, x2), (0, 1)]) (LN := [(6, (0, 0)), (5, (0, 1)), (4, (4, 21)), (0, (4, 0)), (1, (0, 3)), (2, (0, x2)), (3, (0, x3))]) (stN := [(1, 1), (1, 1), (4, 17)]) (hsC := []) (v := (0, x2 / 1)) (st2 := [(0, x2 / 1), (1, 1), (1, 1), (4, 17)]) (jT_fdI1 (d := 0) (x := x2) (by omega)) (by rfl) (by rfl) (by decide +kernel) (by rfl) (by rfl) (by omega) (by omega) (by omega) (by omega) rfl ?_
  refine jT_eq (LN := [(6, (0, 0)), (5, (0, 1)), (4, (4, 21)), (0, (4, 0)), (1, (0, 3)), (2, (0, x2)), (3, (0, x3))]) (stN := [(0, x2), (1, 1), (1, 1), (4, 17)]) (hsN := [jzA_5, jgh, jgh, jgh, jgh, jgh, jgh, jgh, jgh, jgh, jzA_79, jzA_88, jzA_89, (117, [], [18, 19, 20, 21]), jgh, jgh, jgh, (4, [(4, 22), (1, 1)], []), jgh, jgh, jgh, (7, [(4, 23), (4, (-1)), (4, (-1))], []), (101, [], [0, 0, 0, 0, 0, 0]), (114, [], [17])]) (rfl) (by simp only [List.cons.injEq, Prod.mk.injEq, and_true, true_and] <;> ((try unfold jw); (try unfold jwl); omega)) (rfl) ?_
  refine jT_xi2l (x := x2) (z := x2) (pcN := 69) jI_132_68 rfl (jw_idd (by omega) (by omega)) rfl ?_
  refine jT_fA [17, 22] 24 (y := 10) (pcN := 72) (dC := 2) (bc1 := 2) (bc2 := 8) (c1 := 2) (c2 := 13) (as := [(4, 17), (1, 1), (1, 1), (1, x2)]) (asC := [(4, 0), (1, 1), (1, 1), (1, x2)]) (LN := [(6, (0, 0)), (5, (0, 1)), (4, (4, 21)), (0, (4, 0)), (1, (0, 3)), (2, (0, x2)), (3, (0, x3))]) (stN := []) (hsC := [(4, [(4, 1), (1, 1)], []), (101, [], [0, 0, 0, 0, 0, 0])]) (ex := [(101, [], [x2, 0, 0, 0, 0, 0]), (4, [(4, 2), (1, 1)], [])]) (v := (4, 3)) (st2 := [(4, 25)]) (hs2 := [jzA_5, jgh, jgh, jgh, jgh, jgh, jgh, jgh, jgh, jgh, jzA_79, jzA_88, jzA_89, (117, [], [18, 19, 20, 21]), jgh, jgh, jgh, (4, [(4, 22), (1, 1)], []), jgh, jgh, jgh, (7, [(4, 23), (4, (-1)), (4, (-1))], []), (101, [], [0, 0, 0, 0, 0, 0]), (114, [], [17]), (101, [], [x2, 0, 0, 0, 0, 0]), (4, [(4, 24), (1, 1)], [])]) (jA_10_569 (d := 0) (by omega)) (by rfl) (by rfl) (by decide +kernel) (by rfl) (by rfl) (by omega) (by omega) (by omega) (by omega) rfl rfl ?_
  refine jT_xastore (v := (4, 25)) (LN := [(7, (4, 25)), (6, (0, 0)), (5, (0, 1)), (4, (4, 21)), (0, (4, 0)), (1, (0, 3)), (2, (0, x2)), (3, (0, x3))]) (pcN := 74) jI_132_72 rfl rfl rfl rfl ?_
  refine jT_xaload_n (v := (4, 0)) (pcN := 75) jI_132_74 rfl rfl rfl ?_
  refine jT_xaload (v := (4, 25)) (pcN := 77) jI_132_75 rfl rfl rfl ?_
  refine jT_callA [0, 25, 24] (y := 117) (pcN := 80) (dC := 2) (bc1 := 0) (bc2 := 0) (c1 := 2) (c2 := 13) (as := [(4, 0), (4, 25)]) (asC := [(4, 0), (4, 1)]) (LN := [(7, (4, 25)), (6, (0, 0)), (5, (0, 1)), (4, (4, 21)), (0, (4, 0)), (1, (0, 3)), (2, (0, x2)), (3, (0, x3))]) (stN := []) (hsC := [jgh, (4, [(4, 2), (1, 1)], []), (101, [], [x2, 0, 0, 0, 0, 0])]) (ex := []) (v := (9, 0)) (st2 := []) (hs2 := [jzA_5, jgh, jgh, jgh, jgh, jgh, jgh, jgh, jgh, jgh, jzA_79, jzA_88, jzA_89, (117, [], [18, 19, 20, 21]), jgh, jgh, jgh, (4, [(4, 22), (1, 1)], []), jgh, jgh, jgh, (7, [(4, 23), (4, (-1)), (4, (-1))], []), (101, [], [0, 0, 0, 0, 0, 0]), (114, [], [17]), (101, [], [x2, 0, 0, 0, 0, 0]), (4, [(4, 24), (1, 1)], [])]) (jA_117_572 (d := 0) (by omega)) (by rfl) (by rfl) (by rfl) (by rfl) ⟨rfl, rfl, rfl, trivial⟩ (by rfl) (by rfl) (by omega) (by show 24 ≤ 26; omega) (by omega) (by omega) rfl rfl ?_
  refine jT_xaload_n (v := (4, 0)) (pcN := 81) jI_132_80 rfl rfl rfl ?_
  refine jT_xaload_n (v := (4, 0)) (pcN := 82) jI_132_81 rfl rfl rfl ?_
  refine jT_xgetf (a := 0) (t := 1) (ci := 13) (fi := 11) (c := jzA_5) (v := (4, 11)) (pcN := 85) jI_132_82 rfl rfl rfl rfl rfl rfl rfl ?_
  refine jT_xiload_n (v := (0, x3)) (pcN := 86) jI_132_85 rfl rfl rfl ?_
  refine jT_xaload (v := (4, 25)) (pcN := 88) jI_132_86 rfl rfl rfl ?_
  refine jT_callA [11, 25, 12, 13, 14, 15, 16, 24, 17] (y := 58) (pcN := 91) (dC := 1) (bc1 := 2) (bc2 := 13) (c1 := 0) (c2 := 0) (as := [(4, 11), (0, x3), (4, 25)]) (asC := [(4, 0), (0, x3), (4, 1)]) (LN := [(7, (4, 25)), (6, (0, 0)), (5, (0, 1)), (4, (4, 21)), (0, (4, 0)), (1, (0, 3)), (2, (0, x2)), (3, (0, x3))]) (stN := [(4, 0)]) (hsC := jpA_74) (ex := [jgh, jzA_72]) (v := (4, 10)) (st2 := [(4, 27), (4, 0)]) (hs2 := [jzA_5, jgh, jgh, jgh, jgh, jgh, jgh, jgh, jgh, jgh, jzA_79, jzA_88, jzA_89, (117, [], [18, 19, 20, 21]), jgh, jgh, jgh, (4, [(4, 22), (1, 1)], []), jgh, jgh, jgh, (7, [(4, 23), (4, (-1)), (4, (-1))], []), (101, [], [0, 0, 0, 0, 0, 0]), (114, [], [17]), (101, [], [x2, 0, 0, 0, 0, 0]), (4, [(4, 24), (1, 1)], []), jgh, jzA_2216]) (jA_58_181 (d := 0) (by omega)) (by rfl) (by rfl) (by rfl) (by rfl) ⟨rfl, rfl, rfl, rfl, rfl, rfl, rfl, rfl, rfl, trivial⟩ (by rfl) (by rfl) (by omega) (by show 24 ≤ 26; omega) (by omega) (by omega) rfl rfl ?_
  refine jT_callB [0, 27, 1, 2, 3, 4, 5, 6, 7, 8, 9, 10, 11, 12, 13, 14, 15, 16] (y := 100) (pcN := 94) (dC := 0) (bc1 := 0) (bc2 := 0) (c1 := 0) (c2 := 0) (as := [(4, 0), (4, 27)]) (asC := [(4, 0), (4, 1)]) (LN := [(7, (4, 25)), (6, (0, 0)), (5, (0, 1)), (4, (4, 21)), (0, (4, 0)), (1, (0, 3)), (2, (0, x2)), (3, (0, x3))]) (stN := []) (hsC := jpA_80) (hsD := jpA_78) (v := (9, 0)) (st2 := []) (hs2 := [jzA_2217, jgh, jgh, jgh, jgh, jgh, jgh, jgh, jgh, jgh, jzA_102, jzA_88, jzA_89, (117, [], [18, 19, 20, 21]), jgh, jgh, jgh, (4, [(4, 22), (1, 1)], []), jgh, jgh, jgh, (7, [(4, 23), (4, (-1)), (4, (-1))], []), (101, [], [0, 0, 0, 0, 0, 0]), (114, [], [17]), (101, [], [x2, 0, 0, 0, 0, 0]), (4, [(4, 24), (1, 1)], []), jgh, jzA_2216]) (jA_100_34 (d := 0)) (by rfl) (by rfl) (by rfl) (by rfl) ⟨rfl, rfl, rfl, rfl, rfl, rfl, rfl, rfl, rfl, rfl, rfl, rfl, rfl, rfl, rfl, rfl, rfl, rfl, trivial⟩ (by rfl) (by rfl) (by omega) (by show 24 ≤ 28; omega) (by omega) (by omega) rfl rfl ?_
  refine jT_xiload (v := (0, 0)) (pcN := 96) jI_132_94 rfl rfl rfl ?_
  exact jT_ret rfl (by decide) (by show 24 ≤ 28; decide) (by omega) (by omega) ⟨rfl, rfl, rfl⟩
theorem jA_339_604 {xs : List Int} {d : Nat} {x2 x3 : Int} (h_x2 : 1 ≤ x2 ∧ x2 ≤ 200) (h_x3 : 0 ≤ x3 ∧ x3 ≤ 7) : jT xs (d + 4) 339 25 0 [(0, (4, 0)), (1, (0, 3)), (2, (0, x2)), (3, (0, x3)), (4, (4, 1))] [] jpA_2296 4 21 (fun k v hsN => k = 0 ∧ v = (0, 0) ∧ hsN = [jzA_2220, (101, [], [0]), jgh, jgh, jgh, jgh, jgh, jgh, jgh, jgh, jgh, jzA_76, jzA_77, jzA_109, (117, [], [19, 20, 21, 22]), jgh, jgh, jgh, (4, [(4, 23), (1, 1)], []), jgh, jgh, jgh, (7, [(4, 24), (4, (-1)), (4, (-1))], []), (101, [], [0, 0, 0, 0, 0, 0]), (114, [], [18]), (101, [], [x2, 0, 0, 0, 0, 0]), (4, [(4, 25), (1, 1)], []), jgh, jzA_2221]) := by
  refine jT_xaload (v := (4, 1)) (pcN := 2) jI_339_0 rfl rfl rfl ?_
  refine jT_xiconst (k := 0) (pcN := 3) jI_339_2 rfl ?_
  refine jT_xaload_n (v := (4, 0)) (pcN := 4) jI_339_3 rfl rfl rfl ?_
  refine jT_xiload_n (v := (0, 3)) (pcN := 5) jI_339_4 rfl rfl rfl ?_
  refine jT_xiload_n (v := (0, x2)) (pcN := 6) jI_339_5 rfl rfl rfl ?_
  refine jT_xiload_n (v := (0, x3)) (pcN := 7) jI_339_6 rfl rfl rfl ?_
  refine jT_fB [0, 2, 3, 4, 5, 6, 7, 8, 9, 10, 11, 12, 13, 14, 15, 16, 17, 18, 19, 20, 21, 22, 23, 24] 25 (y := 132) (pcN := 10) (dC := 3) (bc1 := 4) (bc2 := 21) (c1 := 0) (c2 := 0) (as := [(4, 0), (0, 3), (0, x2), (0, x3)]) (asC := [(4, 0), (0, 3), (0, x2), (0, x3)]) (LN := [(0, (4, 0)), (1, (0, 3)), (2, (0, x2)), (3, (0, x3)), (4, (4, 1))]) (stN := [(0, 0), (4, 1)]) (hsC := jpA_2295) (hsD := [jzA_2217, jgh, jgh, jgh, jgh, jgh, jgh, jgh, jgh, jgh, jzA_102, jzA_88, jzA_89, (117, [], [18, 19, 20, 21]), jgh, jgh, jgh, (4, [(4, 22), (1, 1)], []), jgh, jgh, jgh, (7, [(4, 23), (4, (-1)), (4, (-1))], []), (101, [], [0, 0, 0, 0, 0, 0]), (114, [], [17]), (101, [], [x2, 0, 0, 0, 0, 0]), (4, [(4, 24), (1, 1)], []), jgh, jzA_2216]) (v := (0, 0)) (st2 := [(0, 0), (0, 0), (4, 1)]) (hs2 := [jzA_2220, (101, [], [0]), jgh, jgh, jgh, jgh, jgh, jgh, jgh, jgh, jgh, jzA_76, jzA_77, jzA_109, (117, [], [19, 20, 21, 22]), jgh, jgh, jgh, (4, [(4, 23), (1, 1)], []), jgh, jgh, jgh, (7, [(4, 24), (4, (-1)), (4, (-1))], []), (101, [], [0, 0, 0, 0, 0, 0]), (114, [], [18]), (101, [], [x2, 0, 0, 0, 0, 0]), (4, [(4, 25), (1, 1)], []), jgh, jzA_2221]) (jA_132_603 (d := 0) (by omega) (by omega)) (by rfl) (by rfl) (by decide +kernel) (by rfl) (by rfl) (by omega) (by omega) (by omega) (by omega) rfl rfl ?_
  refine jT_xi2l (x := 0) (z := 0) (pcN := 11) jI_339_10 rfl (by decide +kernel) rfl ?_
  refine jT_adv 1 (pcN := 12) (LN := [(0, (4, 0)), (1, (0, 3)), (2, (0, x2)), (3, (0, x3)), (4, (4, 1))]) (stN := []) (hsN := [jzA_2220, (101, [], [0]), jgh, jgh, jgh, jgh, jgh, jgh, jgh, jgh, jgh, jzA_76, jzA_77, jzA_109, (117, [], [19, 20, 21, 22]), jgh, jgh, jgh, (4, [(4, 23), (1, 1)], []), jgh, jgh, jgh, (7, [(4, 24), (4, (-1)), (4, (-1))], []), (101, [], [0, 0, 0, 0, 0, 0]), (114, [], [18]), (101, [], [x2, 0, 0, 0, 0, 0]), (4, [(4, 25), (1, 1)], []), jgh, jzA_2221]) (c1 := 0) (s1 := 0) (c2 := 0) (s2 := 0) (by exact rfl) ?_ (by omega) (by omega)
  refine jT_xgoto (pcN := 27) jI_339_12 rfl ?_
  refine jT_xiconst (k := 0) (pcN := 28) jI_339_27 rfl ?_
  exact jT_ret rfl (by decide) (by show 25 ≤ 29; decide) (by omega) (by omega) ⟨rfl, rfl, rfl⟩
theorem jA_252_605 {xs : List Int} {d : Nat} {x2 x3 : Int} (h_x2 : 1 ≤ x2 ∧ x2 ≤ 200) (h_x3 : 0 ≤ x3 ∧ x3 ≤ 7) : jT xs (d + 2) 252 24 0 [(0, (4, 0)), (1, (0, 3)), (2, (0, x2)), (3, (0, x3))] [] jpA_248 0 0 (fun k v hsN => k = 0 ∧ v = (0, 0) ∧ hsN = [jzA_200, (100, [], ((((((((((((((jS0).set ((7 * x3).toNat) x2)).set ((7 * x3 + 1).toNat) 0)).set ((7 * x3 + 2).toNat) 0)).set ((7 * x3 + 3).toNat) 0)).set ((7 * x3 + 4).toNat) 0)).set ((7 * x3 + 5).toNat) 0)).set ((7 * x3 + 6).toNat) 1)), (100, [], []), jzA_196, jzA_201, jgh, jgh, (101, [], [x2, 0, 0, 0, 0, 0]), jgh, jgh, jgh, jgh, jgh, jgh, jgh, jgh, (100, [], jS0), jgh, jgh, jgh, jgh, jgh, jgh, jgh]) := by
  refine jT_xaload_n (v := (4, 0)) (pcN := 1) jI_252_0 rfl rfl rfl ?_
  refine jT_xiload_n (v := (0, 3)) (pcN := 2) jI_252_1 rfl rfl rfl ?_
  refine jT_fR [] 24 (y := 238) (pcN := 5) (dC := 1) (bc1 := 0) (bc2 := 0) (c1 := 0) (c2 := 0) (as := [(0, 3)]) (asC := [(0, 3)]) (LN := [(0, (4, 0)), (1, (0, 3)), (2, (0, x2)), (3, (0, x3))]) (stN := [(4, 0)]) (hsC := []) (v := (0, 1)) (st2 := [(0, 1), (4, 0)]) (jA_238_393 (d := 0)) (by rfl) (by rfl) (by decide +kernel) (by rfl) (by rfl) (by omega) (by omega) (by omega) (by omega) rfl ?_
  refine jT_xifF (t := 19) (pcN := 8) jI_252_5 rfl (by decide +kernel) rfl rfl ?_
  refine jT_xiload_n (v := (0, x3)) (pcN := 9) jI_252_8 rfl rfl rfl ?_
  refine jT_fR [] 24 (y := 188) (pcN := 12) (dC := 1) (bc1 := 0) (bc2 := 0) (c1 := 0) (c2 := 0) (as := [(0, x3)]) (asC := [(0, x3)]) (LN := [(0, (4, 0)), (1, (0, 3)), (2, (0, x2)), (3, (0, x3))]) (stN := [(4, 0)]) (hsC := []) (v := (0, 1)) (st2 := [(0, 1), (4, 0)]) (jA_188_37 (d := 0) (by omega)) (by rfl) (by rfl) (by decide +kernel) (by rfl) (by rfl) (by omega) (by omega) (by omega) (by omega) rfl ?_
  refine jT_xifF (t := 19) (pcN := 15) jI_252_12 rfl (by decide +kernel) rfl rfl ?_
  refine jT_xiconst (k := 1) (pcN := 16) jI_252_15 rfl ?_
  refine jT_xgoto (pcN := 20) jI_252_16 rfl ?_
  refine jT_fR [0, 1, 2, 3, 4, 5, 6, 7, 8, 9, 10, 11, 12, 13, 14, 15] 24 (y := 190) (pcN := 23) (dC := 1) (bc1 := 0) (bc2 := 0) (c1 := 0) (c2 := 0) (as := [(4, 0), (0, 1)]) (asC := [(4, 0), (0, 1)]) (LN := [(0, (4, 0)), (1, (0, 3)), (2, (0, x2)), (3, (0, x3))]) (stN := []) (hsC := jpA_22) (v := (0, 0)) (st2 := [(0, 0)]) (jA_190_39 (d := 0)) (by rfl) (by rfl) (by decide +kernel) (by rfl) (by rfl) (by omega) (by omega) (by omega) (by omega) rfl ?_
  refine jT_xifF (t := 45) (pcN := 26) jI_252_23 rfl (by decide +kernel) rfl rfl ?_
  refine jT_xaload_n (v := (4, 0)) (pcN := 27) jI_252_26 rfl rfl rfl ?_
  refine jT_xiload_n (v := (0, x2)) (pcN := 28) jI_252_27 rfl rfl rfl ?_
  refine jT_xi2l (x := x2) (z := x2) (pcN := 29) jI_252_28 rfl (jw_idd (by omega) (by omega)) rfl ?_
  refine jT_adv 2 (pcN := 35) (LN := [(0, (4, 0)), (1, (0, 3)), (2, (0, x2)), (3, (0, x3))]) (stN := [(1, 200), (1, (-200)), (1, x2), (4, 0)]) (hsN := jpA_248) (c1 := 0) (s1 := 0) (c2 := 0) (s2 := 0) (by exact rfl) ?_ (by omega) (by omega)
  refine jT_fR [] 24 (y := 189) (pcN := 38) (dC := 0) (bc1 := 0) (bc2 := 0) (c1 := 0) (c2 := 0) (as := [(1, x2), (1, (-200)), (1, 200)]) (asC := [(1, x2), (1, (-200)), (1, 200)]) (LN := [(0, (4, 0)), (1, (0, 3)), (2, (0, x2)), (3, (0, x3))]) (stN := [(4, 0)]) (hsC := []) (v := (0, 1)) (st2 := [(0, 1), (4, 0)]) (jT_in_ok (d := 0) (v := x2) (lo := (-200)) (hi := 200) (by omega) (by omega) (by omega) (by omega) (by omega)) (by rfl) (by rfl) (by decide +kernel) (by rfl) (by rfl) (by omega) (by omega) (by omega) (by omega) rfl ?_
  refine jT_xiconst (k := 2) (pcN := 39) jI_252_38 rfl ?_
  refine jT_fR [0] 24 (y := 191) (pcN := 42) (dC := 0) (bc1 := 0) (bc2 := 0) (c1 := 0) (c2 := 0) (as := [(4, 0), (0, 1), (0, 2)]) (asC := [(4, 0), (0, 1), (0, 2)]) (LN := [(0, (4, 0)), (1, (0, 3)), (2, (0, x2)), (3, (0, x3))]) (stN := []) (hsC := [jgh]) (v := (0, 0)) (st2 := [(0, 0)]) (jA_191_49 (d := 0)) (by rfl) (by rfl) (by decide +kernel) (by rfl) (by rfl) (by omega) (by omega) (by omega) (by omega) rfl ?_
  refine jT_xifT (pcN := 47) jI_252_42 rfl (by decide +kernel) rfl ?_
  refine jT_xiload_n (v := (0, x2)) (pcN := 48) jI_252_47 rfl rfl rfl ?_
  refine jT_xaload_n (v := (4, 0)) (pcN := 49) jI_252_48 rfl rfl rfl ?_
  refine jT_xiload_n (v := (0, 3)) (pcN := 50) jI_252_49 rfl rfl rfl ?_
  refine jT_fR [0, 1, 2, 3, 4, 5, 6, 7, 8, 9, 10, 11, 12, 13, 14, 15] 24 (y := 245) (pcN := 53) (dC := 0) (bc1 := 0) (bc2 := 0) (c1 := 0) (c2 := 0) (as := [(4, 0), (0, 3)]) (asC := [(4, 0), (0, 3)]) (LN := [(0, (4, 0)), (1, (0, 3)), (2, (0, x2)), (3, (0, x3))]) (stN := [(0, x2)]) (hsC := jpA_1519) (v := (0, 1)) (st2 := [(0, 1), (0, x2)]) (jA_245_394 (d := 0)) (by rfl) (by rfl) (by decide +kernel) (by rfl) (by rfl) (by omega) (by omega) (by omega) (by omega) rfl ?_
  refine jT_fR [] 24 (y := 375) (pcN := 56) (dC := 0) (bc1 := 0) (bc2 := 0) (c1 := 0) (c2 := 0) (as := [(0, x2), (0, 1)]) (asC := [(0, x2), (0, 1)]) (LN := [(0, (4, 0)), (1, (0, 3)), (2, (0, x2)), (3, (0, x3))]) (stN := []) (hsC := []) (v := (0, x2 % 1)) (st2 := [(0, x2 % 1)]) (jT_fmI1 (d := 0) (x := x2) (by omega)) (by rfl) (by rfl) (by decide +kernel) (by rfl) (by rfl) (by omega) (by omega) (by omega) (by omega) rfl ?_
  refine jT_eq (LN := [(0, (4, 0)), (1, (0, 3)), (2, (0, x2)), (3, (0, x3))]) (stN := [(0, 0)]) (hsN := [jzA_21, (100, [], jS0), (100, [], []), jzA_196, jzA_197, jgh, jgh, (101, [], [0, 0, 0, 0, 0, 0]), jgh, jgh, jgh, jgh, jgh, jgh, jgh, jgh, (100, [], (List.replicate 1613 0)), jgh, jgh, jgh, jgh, jgh, jgh, jgh]) (rfl) (by simp only [List.cons.injEq, Prod.mk.injEq, and_true, true_and] <;> ((try unfold jw); (try unfold jwl); omega)) (rfl) ?_
  refine jT_xistore (v := (0, 0)) (LN := [(4, (0, 0)), (0, (4, 0)), (1, (0, 3)), (2, (0, x2)), (3, (0, x3))]) (pcN := 58) jI_252_56 rfl rfl rfl rfl ?_
  refine jT_xaload_n (v := (4, 0)) (pcN := 59) jI_252_58 rfl rfl rfl ?_
  refine jT_xaload_n (v := (4, 0)) (pcN := 60) jI_252_59 rfl rfl rfl ?_
  refine jT_xgetf (a := 0) (t := 1) (ci := 14) (fi := 1) (c := jzA_21) (v := (4, 1)) (pcN := 63) jI_252_60 rfl rfl rfl rfl rfl rfl rfl ?_
  refine jT_xiload_n (v := (0, 3)) (pcN := 64) jI_252_63 rfl rfl rfl ?_
  refine jT_xiload (v := (0, 0)) (pcN := 66) jI_252_64 rfl rfl rfl ?_
  refine jT_fR [] 24 (y := 242) (pcN := 69) (dC := 0) (bc1 := 0) (bc2 := 0) (c1 := 0) (c2 := 0) (as := [(0, 3), (0, 0)]) (asC := [(0, 3), (0, 0)]) (LN := [(4, (0, 0)), (0, (4, 0)), (1, (0, 3)), (2, (0, x2)), (3, (0, x3))]) (stN := [(4, 1), (4, 0)]) (hsC := []) (v := (0, 900)) (st2 := [(0, 900), (4, 1), (4, 0)]) (jA_242_395 (d := 0)) (by rfl) (by rfl) (by decide +kernel) (by rfl) (by rfl) (by omega) (by omega) (by omega) (by omega) rfl ?_
  refine jT_fR [0, 1, 2, 3, 4, 5, 6, 7, 8, 9, 10, 11, 12, 13, 14, 15] 24 (y := 203) (pcN := 72) (dC := 0) (bc1 := 0) (bc2 := 0) (c1 := 0) (c2 := 0) (as := [(4, 0), (4, 1), (0, 900)]) (asC := [(4, 0), (4, 1), (0, 900)]) (LN := [(4, (0, 0)), (0, (4, 0)), (1, (0, 3)), (2, (0, x2)), (3, (0, x3))]) (stN := []) (hsC := jpA_130) (v := (9, 0)) (st2 := []) (jA_203_398 (d := 0)) (by rfl) (by rfl) (by decide +kernel) (by rfl) (by rfl) (by omega) (by omega) (by omega) (by omega) rfl ?_
  refine jT_xaload_n (v := (4, 0)) (pcN := 73) jI_252_72 rfl rfl rfl ?_
  refine jT_xgetf (a := 0) (t := 1) (ci := 14) (fi := 9) (c := jzA_21) (v := (4, 7)) (pcN := 76) jI_252_73 rfl rfl rfl rfl rfl rfl rfl ?_
  refine jT_xiconst (k := 0) (pcN := 77) jI_252_76 rfl ?_
  refine jT_adv 1 (pcN := 78) (LN := [(4, (0, 0)), (0, (4, 0)), (1, (0, 3)), (2, (0, x2)), (3, (0, x3))]) (stN := [(0, 0), (4, 7), (0, 0), (4, 7)]) (hsN := jpA_248) (c1 := 0) (s1 := 0) (c2 := 0) (s2 := 0) (by exact rfl) ?_ (by omega) (by omega)
  refine jT_lald (x := 0) (a := 7) (j := 0) (fs := []) (X := [0, 0, 0, 0, 0, 0]) jI_252_78 rfl rfl rfl rfl ?_
  refine jT_eq (LN := [(4, (0, 0)), (0, (4, 0)), (1, (0, 3)), (2, (0, x2)), (3, (0, x3))]) (stN := [(1, 0), (0, 0), (4, 7)]) (hsN := jpA_248) rfl rfl rfl ?_
  refine jT_xaload_n (v := (4, 0)) (pcN := 80) jI_252_79 rfl rfl rfl ?_
  refine jT_xgetf (a := 0) (t := 1) (ci := 14) (fi := 10) (c := jzA_21) (v := (1, 1)) (pcN := 83) jI_252_80 rfl rfl rfl rfl rfl rfl rfl ?_
  refine jT_xiload_n (v := (0, x2)) (pcN := 84) jI_252_83 rfl rfl rfl ?_
  refine jT_xaload_n (v := (4, 0)) (pcN := 85) jI_252_84 rfl rfl rfl ?_
  refine jT_xiload_n (v := (0, 3)) (pcN := 86) jI_252_85 rfl rfl rfl ?_
  refine jT_fR [0, 1, 2, 3, 4, 5, 6, 7, 8, 9, 10, 11, 12, 13, 14, 15] 24 (y := 245) (pcN := 89) (dC := 0) (bc1 := 0) (bc2 := 0) (c1 := 0) (c2 := 0) (as := [(4, 0), (0, 3)]) (asC := [(4, 0), (0, 3)]) (LN := [(4, (0, 0)), (0, (4, 0)), (1, (0, 3)), (2, (0, x2)), (3, (0, x3))]) (stN := [(0, x2), (1, 1), (1, 0), (0, 0), (4, 7)]) (hsC := jpA_1519) (v := (0, 1)) (st2 := [(0, 1), (0, x2), (1, 1), (1, 0), (0, 0), (4, 7)]) (jA_245_394 (d := 0)) (by rfl) (by rfl) (by decide +kernel) (by rfl) (by rfl) (by omega) (by omega) (by omega) (by omega) rfl ?_
  refine jT_fR [] 24 (y := 376) (pcN := 92) (dC := 0) (bc1 := 0) (bc2 := 0) (c1 := 0) (c2 := 0) (as := [(0, x2), (0, 1)]) (asC := [(0, x2), (0, 1)]) (LN := [(4, (0, 0)), (0, (4, 0)), (1, (0, 3)), (2, (0, x2)), (3, (0, x3))]) (stN := [(1, 1), (1, 0), (0, 0), (4, 7)]) (hsC := []) (v := (0, x2 / 1)) (st2 := [(0, x2 / 1), (1, 1), (1, 0), (0, 0), (4, 7)]) (jT_fdI1 (d := 0) (x := x2) (by omega)) (by rfl) (by rfl) (by decide +kernel) (by rfl) (by rfl) (by omega) (by omega) (by omega) (by omega) rfl ?_
  refine jT_eq (LN := [(4, (0, 0)), (0, (4, 0)), (1, (0, 3)), (2, (0, x2)), (3, (0, x3))]) (stN := [(0, x2), (1, 1), (1, 0), (0, 0), (4, 7)]) (hsN := [jzA_21, (100, [], jS0), (100, [], []), jzA_196, jzA_197, jgh, jgh, (101, [], [0, 0, 0, 0, 0, 0]), jgh, jgh, jgh, jgh, jgh, jgh, jgh, jgh, (100, [], (List.replicate 1613 0)), jgh, jgh, jgh, jgh, jgh, jgh, jgh]) (rfl) (by simp only [List.cons.injEq, Prod.mk.injEq, and_true, true_and] <;> ((try unfold jw); (try unfold jwl); omega)) (rfl) ?_
  refine jT_xi2l (x := x2) (z := x2) (pcN := 93) jI_252_92 rfl (jw_idd (by omega) (by omega)) rfl ?_
  refine jT_xlmul (x := 1) (y := x2) (z := x2) (pcN := 94) jI_252_93 rfl (by omega) rfl ?_
  refine jT_xladd (x := 0) (y := x2) (z := x2) (pcN := 95) jI_252_94 rfl (by omega) rfl ?_
  refine jT_adv 1 (pcN := 96) (LN := [(4, (0, 0)), (0, (4, 0)), (1, (0, 3)), (2, (0, x2)), (3, (0, x3))]) (stN := []) (hsN := [jzA_21, (100, [], jS0), (100, [], []), jzA_196, jzA_197, jgh, jgh, (101, [], [x2, 0, 0, 0, 0, 0]), jgh, jgh, jgh, jgh, jgh, jgh, jgh, jgh, (100, [], (List.replicate 1613 0)), jgh, jgh, jgh, jgh, jgh, jgh, jgh]) (c1 := 0) (s1 := 0) (c2 := 0) (s2 := 0) (by exact rfl) ?_ (by omega) (by omega)
  refine jT_xaload_n (v := (4, 0)) (pcN := 97) jI_252_96 rfl rfl rfl ?_
  refine jT_xaload_n (v := (4, 0)) (pcN := 98) jI_252_97 rfl rfl rfl ?_
  refine jT_callA [0, 1, 2, 3, 4, 5, 6, 7, 8, 9, 10, 11, 12, 13, 14, 15] (y := 205) (pcN := 101) (dC := 1) (bc1 := 0) (bc2 := 0) (c1 := 0) (c2 := 0) (as := [(4, 0)]) (asC := [(4, 0)]) (LN := [(4, (0, 0)), (0, (4, 0)), (1, (0, 3)), (2, (0, x2)), (3, (0, x3))]) (stN := [(4, 0)]) (hsC := [jzA_21, jgh, jgh, jgh, jgh, jgh, jgh, (101, [], [x2, 0, 0, 0, 0, 0]), jgh, jgh, jgh, jgh, jgh, jgh, jgh, jgh]) (ex := []) (v := (0, 1)) (st2 := [(0, 1), (4, 0)]) (hs2 := [jzA_21, (100, [], jS0), (100, [], []), jzA_196, jzA_197, jgh, jgh, (101, [], [x2, 0, 0, 0, 0, 0]), jgh, jgh, jgh, jgh, jgh, jgh, jgh, jgh, (100, [], (List.replicate 1613 0)), jgh, jgh, jgh, jgh, jgh, jgh, jgh]) (jA_205_575 (d := 0) (by omega)) (by rfl) (by rfl) (by rfl) (by rfl) ⟨rfl, rfl, rfl, rfl, rfl, rfl, rfl, rfl, rfl, rfl, rfl, rfl, rfl, rfl, rfl, rfl, trivial⟩ (by rfl) (by rfl) (by omega) (by show 24 ≤ 24; omega) (by omega) (by omega) rfl rfl ?_
  refine jT_xiconst (k := 3) (pcN := 102) jI_252_101 rfl ?_
  refine jT_callA [0] (y := 191) (pcN := 105) (dC := 0) (bc1 := 0) (bc2 := 0) (c1 := 0) (c2 := 0) (as := [(4, 0), (0, 1), (0, 3)]) (asC := [(4, 0), (0, 1), (0, 3)]) (LN := [(4, (0, 0)), (0, (4, 0)), (1, (0, 3)), (2, (0, x2)), (3, (0, x3))]) (stN := []) (hsC := [jgh]) (ex := []) (v := (0, 0)) (st2 := [(0, 0)]) (hs2 := [jzA_21, (100, [], jS0), (100, [], []), jzA_196, jzA_197, jgh, jgh, (101, [], [x2, 0, 0, 0, 0, 0]), jgh, jgh, jgh, jgh, jgh, jgh, jgh, jgh, (100, [], (List.replicate 1613 0)), jgh, jgh, jgh, jgh, jgh, jgh, jgh]) (jA_191_117 (d := 0)) (by rfl) (by rfl) (by rfl) (by rfl) ⟨rfl, trivial⟩ (by rfl) (by rfl) (by omega) (by show 24 ≤ 24; omega) (by omega) (by omega) rfl rfl ?_
  refine jT_xifT (pcN := 110) jI_252_105 rfl (by decide +kernel) rfl ?_
  refine jT_xaload_n (v := (4, 0)) (pcN := 111) jI_252_110 rfl rfl rfl ?_
  refine jT_callB [0, 1, 2, 3, 4, 5, 6, 7, 8, 9, 10, 11, 12, 13, 14, 15, 16, 17, 18, 19, 20, 21, 22, 23] (y := 195) (pcN := 114) (dC := 0) (bc1 := 0) (bc2 := 0) (c1 := 0) (c2 := 0) (as := [(4, 0)]) (asC := [(4, 0)]) (LN := [(4, (0, 0)), (0, (4, 0)), (1, (0, 3)), (2, (0, x2)), (3, (0, x3))]) (stN := []) (hsC := jpA_198) (hsD := jpA_202) (v := (9, 0)) (st2 := []) (hs2 := [jzA_200, (100, [], jS0), (100, [], []), jzA_196, jzA_201, jgh, jgh, (101, [], [x2, 0, 0, 0, 0, 0]), jgh, jgh, jgh, jgh, jgh, jgh, jgh, jgh, (100, [], jS0), jgh, jgh, jgh, jgh, jgh, jgh, jgh]) (jA_195_50 (d := 0)) (by rfl) (by rfl) (by rfl) (by rfl) ⟨rfl, rfl, rfl, rfl, rfl, rfl, rfl, rfl, rfl, rfl, rfl, rfl, rfl, rfl, rfl, rfl, rfl, rfl, rfl, rfl, rfl, rfl, rfl, rfl, trivial⟩ (by rfl) (by rfl) (by omega) (by show 24 ≤ 24; omega) (by omega) (by omega) rfl rfl ?_
  refine jT_xaload_n (v := (4, 0)) (pcN := 115) jI_252_114 rfl rfl rfl ?_
  refine jT_xiload_n (v := (0, x3)) (pcN := 116) jI_252_115 rfl rfl rfl ?_
  refine jT_callB [0, 1, 2, 3, 4, 5, 6, 7, 8, 9, 10, 11, 12, 13, 14, 15] (y := 196) (pcN := 119) (dC := 1) (bc1 := 0) (bc2 := 0) (c1 := 0) (c2 := 0) (as := [(4, 0), (0, x3)]) (asC := [(4, 0), (0, x3)]) (LN := [(4, (0, 0)), (0, (4, 0)), (1, (0, 3)), (2, (0, x2)), (3, (0, x3))]) (stN := []) (hsC := [jzA_200, (100, [], jS0), jgh, jgh, jgh, jgh, jgh, (101, [], [x2, 0, 0, 0, 0, 0]), jgh, jgh, jgh, jgh, jgh, jgh, jgh, jgh]) (hsD := [jzA_200, (100, [], ((((((((((((((jS0).set ((7 * x3).toNat) x2)).set ((7 * x3 + 1).toNat) 0)).set ((7 * x3 + 2).toNat) 0)).set ((7 * x3 + 3).toNat) 0)).set ((7 * x3 + 4).toNat) 0)).set ((7 * x3 + 5).toNat) 0)).set ((7 * x3 + 6).toNat) 1)), jgh, jgh, jgh, jgh, jgh, (101, [], [x2, 0, 0, 0, 0, 0]), jgh, jgh, jgh, jgh, jgh, jgh, jgh, jgh]) (v := (0, 1)) (st2 := [(0, 1)]) (hs2 := [jzA_200, (100, [], ((((((((((((((jS0).set ((7 * x3).toNat) x2)).set ((7 * x3 + 1).toNat) 0)).set ((7 * x3 + 2).toNat) 0)).set ((7 * x3 + 3).toNat) 0)).set ((7 * x3 + 4).toNat) 0)).set ((7 * x3 + 5).toNat) 0)).set ((7 * x3 + 6).toNat) 1)), (100, [], []), jzA_196, jzA_201, jgh, jgh, (101, [], [x2, 0, 0, 0, 0, 0]), jgh, jgh, jgh, jgh, jgh, jgh, jgh, jgh, (100, [], jS0), jgh, jgh, jgh, jgh, jgh, jgh, jgh]) (jA_196_577 (d := 0) (by omega) (by omega)) (by rfl) (by rfl) (by rfl) (by rfl) ⟨rfl, rfl, rfl, rfl, rfl, rfl, rfl, rfl, rfl, rfl, rfl, rfl, rfl, rfl, rfl, rfl, trivial⟩ (by rfl) (by rfl) (by omega) (by show 24 ≤ 24; omega) (by omega) (by omega) rfl rfl ?_
  refine jT_adv 1 (pcN := 120) (LN := [(4, (0, 0)), (0, (4, 0)), (1, (0, 3)), (2, (0, x2)), (3, (0, x3))]) (stN := []) (hsN := [jzA_200, (100, [], ((((((((((((((jS0).set ((7 * x3).toNat) x2)).set ((7 * x3 + 1).toNat) 0)).set ((7 * x3 + 2).toNat) 0)).set ((7 * x3 + 3).toNat) 0)).set ((7 * x3 + 4).toNat) 0)).set ((7 * x3 + 5).toNat) 0)).set ((7 * x3 + 6).toNat) 1)), (100, [], []), jzA_196, jzA_201, jgh, jgh, (101, [], [x2, 0, 0, 0, 0, 0]), jgh, jgh, jgh, jgh, jgh, jgh, jgh, jgh, (100, [], jS0), jgh, jgh, jgh, jgh, jgh, jgh, jgh]) (c1 := 0) (s1 := 0) (c2 := 0) (s2 := 0) (by exact rfl) ?_ (by omega) (by omega)
  refine jT_xiload (v := (0, 0)) (pcN := 122) jI_252_120 rfl rfl rfl ?_
  exact jT_ret rfl (by decide) (by show 24 ≤ 24; decide) (by omega) (by omega) ⟨rfl, rfl, rfl⟩
theorem jA_116_606 {xs : List Int} {d : Nat} {x2 : Int} (h_x2 : 201 ≤ x2 ∧ x2 ≤ 2147483647) : jT xs d 116 1 0 [(0, (4, 0)), (1, (0, x2)), (2, (0, (-200))), (3, (0, 200))] [] [jgh] 1 6 (fun k v hsN => k = 1 ∧ v = (0, 1) ∧ hsN = [jgh] ++ []) := by
  refine jT_xiload_n (v := (0, x2)) (pcN := 1) jI_116_0 rfl rfl rfl ?_
  refine jT_xiload_n (v := (0, (-200))) (pcN := 2) jI_116_1 rfl rfl rfl ?_
  refine jT_icF (a := x2) (b := (-200)) (t := 10) (by rfl) (by rfl) (by rfl) (jw_idd (by omega) (by omega)) (jw_idd (by omega) (by omega)) (by simp only [jcP] <;> omega) ?_
  refine jT_xiload_n (v := (0, x2)) (pcN := 6) jI_116_5 rfl rfl rfl ?_
  refine jT_xiload_n (v := (0, 200)) (pcN := 7) jI_116_6 rfl rfl rfl ?_
  refine jT_icF (a := x2) (b := 200) (t := 21) (by rfl) (by rfl) (by rfl) (jw_idd (by omega) (by omega)) (jw_idd (by omega) (by omega)) (by simp only [jcP] <;> omega) ?_
  exact jT_ret (c1 := 1) (s1 := 6) rfl (by decide) (by show 1 ≤ 1; decide) (by omega) (by omega) ⟨rfl, rfl, rfl⟩
theorem jA_132_607 {xs : List Int} {d : Nat} {x1 x2 x3 : Int} (h_x1 : 0 ≤ x1 ∧ x1 ≤ 3) (h_x2 : 201 ≤ x2 ∧ x2 ≤ 2147483647) (h_x3 : 0 ≤ x3 ∧ x3 ≤ 7) : jT xs (d + 1) 132 12 0 [(0, (4, 0)), (1, (0, x1)), (2, (0, x2)), (3, (0, x3))] [] jpA_6 1 6 (fun k v hsN => k = 1 ∧ v = (0, 1) ∧ hsN = jpA_6 ++ []) := by
  refine jT_xaload_n (v := (4, 0)) (pcN := 1) jI_132_0 rfl rfl rfl ?_
  refine jT_xiload_n (v := (0, x1)) (pcN := 2) jI_132_1 rfl rfl rfl ?_
  refine jT_xiconst (k := 4) (pcN := 3) jI_132_2 rfl ?_
  refine jT_fR [0] 12 (y := 115) (pcN := 6) (dC := 0) (bc1 := 0) (bc2 := 0) (c1 := 1) (c2 := 6) (as := [(4, 0), (0, x1), (0, 4)]) (asC := [(4, 0), (0, x1), (0, 4)]) (LN := [(0, (4, 0)), (1, (0, x1)), (2, (0, x2)), (3, (0, x3))]) (stN := []) (hsC := [jgh]) (v := (9, 0)) (st2 := []) (jA_115_315 (d := 0) (by omega)) (by rfl) (by rfl) (by decide +kernel) (by rfl) (by rfl) (by omega) (by omega) (by omega) (by omega) rfl ?_
  refine jT_xaload_n (v := (4, 0)) (pcN := 7) jI_132_6 rfl rfl rfl ?_
  refine jT_xiload_n (v := (0, x3)) (pcN := 8) jI_132_7 rfl rfl rfl ?_
  refine jT_xbipush (k := 8) (pcN := 10) jI_132_8 (by decide) rfl ?_
  refine jT_fR [0] 12 (y := 115) (pcN := 13) (dC := 0) (bc1 := 0) (bc2 := 0) (c1 := 1) (c2 := 6) (as := [(4, 0), (0, x3), (0, 8)]) (asC := [(4, 0), (0, x3), (0, 8)]) (LN := [(0, (4, 0)), (1, (0, x1)), (2, (0, x2)), (3, (0, x3))]) (stN := []) (hsC := [jgh]) (v := (9, 0)) (st2 := []) (jA_115_23 (d := 0) (by omega)) (by rfl) (by rfl) (by decide +kernel) (by rfl) (by rfl) (by omega) (by omega) (by omega) (by omega) rfl ?_
  refine jT_xaload_n (v := (4, 0)) (pcN := 14) jI_132_13 rfl rfl rfl ?_
  refine jT_xiload_n (v := (0, x2)) (pcN := 15) jI_132_14 rfl rfl rfl ?_
  refine jT_xsipush (k := (-200)) (pcN := 18) jI_132_15 (by decide) rfl ?_
  refine jT_xsipush (k := 200) (pcN := 21) jI_132_18 (by decide) rfl ?_
  exact jT_fX [0] 12 (y := 116) (pcN := 24) (dC := 0) (bc1 := 1) (bc2 := 6) (as := [(4, 0), (0, x2), (0, (-200)), (0, 200)]) (asC := [(4, 0), (0, x2), (0, (-200)), (0, 200)]) (LN := [(0, (4, 0)), (1, (0, x1)), (2, (0, x2)), (3, (0, x3))]) (stN := []) (hsC := [jgh]) (e := 1) (jA_116_606 (d := 0) (by omega)) (by rfl) (by rfl) (by decide +kernel) (by rfl) (by rfl) (by omega) (by omega) (by omega) (by omega) ⟨rfl, ⟨rfl, rfl, rfl⟩⟩
theorem jA_339_608 {xs : List Int} {d : Nat} {x1 x2 x3 : Int} (h_x1 : 0 ≤ x1 ∧ x1 ≤ 3) (h_x2 : 201 ≤ x2 ∧ x2 ≤ 2147483647) (h_x3 : 0 ≤ x3 ∧ x3 ≤ 7) : jT xs (d + 2) 339 13 0 [(0, (4, 0)), (1, (0, x1)), (2, (0, x2)), (3, (0, x3)), (4, (4, 1))] [] jpA_15 1 6 (fun k v hsN => k = 0 ∧ v = (0, 2) ∧ hsN = jpA_15 ++ []) := by
  refine jT_xaload (v := (4, 1)) (pcN := 2) jI_339_0 rfl rfl rfl ?_
  refine jT_xiconst (k := 0) (pcN := 3) jI_339_2 rfl ?_
  refine jT_xaload_n (v := (4, 0)) (pcN := 4) jI_339_3 rfl rfl rfl ?_
  refine jT_xiload_n (v := (0, x1)) (pcN := 5) jI_339_4 rfl rfl rfl ?_
  refine jT_xiload_n (v := (0, x2)) (pcN := 6) jI_339_5 rfl rfl rfl ?_
  refine jT_xiload_n (v := (0, x3)) (pcN := 7) jI_339_6 rfl rfl rfl ?_
  exact jT_fX [0, 2, 3, 4, 5, 6, 7, 8, 9, 10, 11, 12] 13 (y := 132) (pcN := 10) (dC := 1) (bc1 := 1) (bc2 := 6) (as := [(4, 0), (0, x1), (0, x2), (0, x3)]) (asC := [(4, 0), (0, x1), (0, x2), (0, x3)]) (LN := [(0, (4, 0)), (1, (0, x1)), (2, (0, x2)), (3, (0, x3)), (4, (4, 1))]) (stN := [(0, 0), (4, 1)]) (hsC := jpA_6) (e := 1) (jA_132_607 (d := 0) (by omega) (by omega) (by omega)) (by rfl) (by rfl) (by decide +kernel) (by rfl) (by rfl) (by omega) (by omega) (by omega) (by omega) (show _ from ⟨rfl, rfl, rfl⟩)
theorem jA_252_609 {xs : List Int} {d : Nat} {x1 x2 x3 : Int} (h_x1 : 0 ≤ x1 ∧ x1 ≤ 3) (h_x2 : 201 ≤ x2 ∧ x2 ≤ 2147483647) (h_x3 : 0 ≤ x3 ∧ x3 ≤ 7) : jT xs (d + 2) 252 16 0 [(0, (4, 0)), (1, (0, x1)), (2, (0, x2)), (3, (0, x3))] [] jpA_22 0 0 (fun k v hsN => k = 0 ∧ v = (0, 0) ∧ hsN = jpA_361) := by
  refine jT_xaload_n (v := (4, 0)) (pcN := 1) jI_252_0 rfl rfl rfl ?_
  refine jT_xiload_n (v := (0, x1)) (pcN := 2) jI_252_1 rfl rfl rfl ?_
  refine jT_fR [] 16 (y := 238) (pcN := 5) (dC := 1) (bc1 := 0) (bc2 := 0) (c1 := 0) (c2 := 0) (as := [(0, x1)]) (asC := [(0, x1)]) (LN := [(0, (4, 0)), (1, (0, x1)), (2, (0, x2)), (3, (0, x3))]) (stN := [(4, 0)]) (hsC := []) (v := (0, 1)) (st2 := [(0, 1), (4, 0)]) (jA_238_318 (d := 0) (by omega)) (by rfl) (by rfl) (by decide +kernel) (by rfl) (by rfl) (by omega) (by omega) (by omega) (by omega) rfl ?_
  refine jT_xifF (t := 19) (pcN := 8) jI_252_5 rfl (by decide +kernel) rfl rfl ?_
  refine jT_xiload_n (v := (0, x3)) (pcN := 9) jI_252_8 rfl rfl rfl ?_
  refine jT_fR [] 16 (y := 188) (pcN := 12) (dC := 1) (bc1 := 0) (bc2 := 0) (c1 := 0) (c2 := 0) (as := [(0, x3)]) (asC := [(0, x3)]) (LN := [(0, (4, 0)), (1, (0, x1)), (2, (0, x2)), (3, (0, x3))]) (stN := [(4, 0)]) (hsC := []) (v := (0, 1)) (st2 := [(0, 1), (4, 0)]) (jA_188_37 (d := 0) (by omega)) (by rfl) (by rfl) (by decide +kernel) (by rfl) (by rfl) (by omega) (by omega) (by omega) (by omega) rfl ?_
  refine jT_xifF (t := 19) (pcN := 15) jI_252_12 rfl (by decide +kernel) rfl rfl ?_
  refine jT_xiconst (k := 1) (pcN := 16) jI_252_15 rfl ?_
  refine jT_xgoto (pcN := 20) jI_252_16 rfl ?_
  refine jT_fR [0, 1, 2, 3, 4, 5, 6, 7, 8, 9, 10, 11, 12, 13, 14, 15] 16 (y := 190) (pcN := 23) (dC := 1) (bc1 := 0) (bc2 := 0) (c1 := 0) (c2 := 0) (as := [(4, 0), (0, 1)]) (asC := [(4, 0), (0, 1)]) (LN := [(0, (4, 0)), (1, (0, x1)), (2, (0, x2)), (3, (0, x3))]) (stN := []) (hsC := jpA_22) (v := (0, 0)) (st2 := [(0, 0)]) (jA_190_39 (d := 0)) (by rfl) (by rfl) (by decide +kernel) (by rfl) (by rfl) (by omega) (by omega) (by omega) (by omega) rfl ?_
  refine jT_xifF (t := 45) (pcN := 26) jI_252_23 rfl (by decide +kernel) rfl rfl ?_
  refine jT_xaload_n (v := (4, 0)) (pcN := 27) jI_252_26 rfl rfl rfl ?_
  refine jT_xiload_n (v := (0, x2)) (pcN := 28) jI_252_27 rfl rfl rfl ?_
  refine jT_xi2l (x := x2) (z := x2) (pcN := 29) jI_252_28 rfl (jw_idd (by omega) (by omega)) rfl ?_
  refine jT_adv 2 (pcN := 35) (LN := [(0, (4, 0)), (1, (0, x1)), (2, (0, x2)), (3, (0, x3))]) (stN := [(1, 200), (1, (-200)), (1, x2), (4, 0)]) (hsN := jpA_22) (c1 := 0) (s1 := 0) (c2 := 0) (s2 := 0) (by exact rfl) ?_ (by omega) (by omega)
  refine jT_fR [] 16 (y := 189) (pcN := 38) (dC := 0) (bc1 := 0) (bc2 := 0) (c1 := 0) (c2 := 0) (as := [(1, x2), (1, (-200)), (1, 200)]) (asC := [(1, x2), (1, (-200)), (1, 200)]) (LN := [(0, (4, 0)), (1, (0, x1)), (2, (0, x2)), (3, (0, x3))]) (stN := [(4, 0)]) (hsC := []) (v := (0, 0)) (st2 := [(0, 0), (4, 0)]) (jT_in_hi (d := 0) (v := x2) (lo := (-200)) (hi := 200) (by omega) (by omega) (by omega) (by omega) (by omega)) (by rfl) (by rfl) (by decide +kernel) (by rfl) (by rfl) (by omega) (by omega) (by omega) (by omega) rfl ?_
  refine jT_xiconst (k := 2) (pcN := 39) jI_252_38 rfl ?_
  refine jT_fB [0, 1, 2, 3, 4, 5, 6, 7, 8, 9, 10, 11, 12, 13, 14, 15] 16 (y := 191) (pcN := 42) (dC := 0) (bc1 := 0) (bc2 := 0) (c1 := 0) (c2 := 0) (as := [(4, 0), (0, 0), (0, 2)]) (asC := [(4, 0), (0, 0), (0, 2)]) (LN := [(0, (4, 0)), (1, (0, x1)), (2, (0, x2)), (3, (0, x3))]) (stN := []) (hsC := jpA_22) (hsD := jpA_361) (v := (0, 1)) (st2 := [(0, 1)]) (hs2 := jpA_361) (jA_191_99 (d := 0)) (by rfl) (by rfl) (by decide +kernel) (by rfl) (by rfl) (by omega) (by omega) (by omega) (by omega) rfl (by decide +kernel) ?_
  refine jT_xifF (t := 47) (pcN := 45) jI_252_42 rfl (by decide +kernel) rfl rfl ?_
  refine jT_xiconst (k := 0) (pcN := 46) jI_252_45 rfl ?_
  exact jT_ret rfl (by decide) (by show 16 ≤ 16; decide) (by omega) (by omega) ⟨rfl, rfl, rfl⟩
theorem jA_132_610 {xs : List Int} {d : Nat} {x1 x2 x3 : Int} (h_x1 : 0 ≤ x1 ∧ x1 ≤ 3) (h_x2 : (-2147483648) ≤ x2 ∧ x2 ≤ 2147483647) (h_x3 : 8 ≤ x3 ∧ x3 ≤ 2147483647) : jT xs (d + 1) 132 12 0 [(0, (4, 0)), (1, (0, x1)), (2, (0, x2)), (3, (0, x3))] [] jpA_6 1 6 (fun k v hsN => k = 1 ∧ v = (0, 0) ∧ hsN = jpA_6 ++ []) := by
  refine jT_xaload_n (v := (4, 0)) (pcN := 1) jI_132_0 rfl rfl rfl ?_
  refine jT_xiload_n (v := (0, x1)) (pcN := 2) jI_132_1 rfl rfl rfl ?_
  refine jT_xiconst (k := 4) (pcN := 3) jI_132_2 rfl ?_
  refine jT_fR [0] 12 (y := 115) (pcN := 6) (dC := 0) (bc1 := 0) (bc2 := 0) (c1 := 1) (c2 := 6) (as := [(4, 0), (0, x1), (0, 4)]) (asC := [(4, 0), (0, x1), (0, 4)]) (LN := [(0, (4, 0)), (1, (0, x1)), (2, (0, x2)), (3, (0, x3))]) (stN := []) (hsC := [jgh]) (v := (9, 0)) (st2 := []) (jA_115_315 (d := 0) (by omega)) (by rfl) (by rfl) (by decide +kernel) (by rfl) (by rfl) (by omega) (by omega) (by omega) (by omega) rfl ?_
  refine jT_xaload_n (v := (4, 0)) (pcN := 7) jI_132_6 rfl rfl rfl ?_
  refine jT_xiload_n (v := (0, x3)) (pcN := 8) jI_132_7 rfl rfl rfl ?_
  refine jT_xbipush (k := 8) (pcN := 10) jI_132_8 (by decide) rfl ?_
  exact jT_fX [0] 12 (y := 115) (pcN := 13) (dC := 0) (bc1 := 1) (bc2 := 6) (as := [(4, 0), (0, x3), (0, 8)]) (asC := [(4, 0), (0, x3), (0, 8)]) (LN := [(0, (4, 0)), (1, (0, x1)), (2, (0, x2)), (3, (0, x3))]) (stN := []) (hsC := [jgh]) (e := 0) (jA_115_55 (d := 0) (by omega)) (by rfl) (by rfl) (by decide +kernel) (by rfl) (by rfl) (by omega) (by omega) (by omega) (by omega) ⟨rfl, ⟨rfl, rfl, rfl⟩⟩
theorem jA_339_611 {xs : List Int} {d : Nat} {x1 x2 x3 : Int} (h_x1 : 0 ≤ x1 ∧ x1 ≤ 3) (h_x2 : (-2147483648) ≤ x2 ∧ x2 ≤ 2147483647) (h_x3 : 8 ≤ x3 ∧ x3 ≤ 2147483647) : jT xs (d + 2) 339 13 0 [(0, (4, 0)), (1, (0, x1)), (2, (0, x2)), (3, (0, x3)), (4, (4, 1))] [] jpA_15 1 6 (fun k v hsN => k = 0 ∧ v = (0, 1) ∧ hsN = jpA_15 ++ []) := by
  refine jT_xaload (v := (4, 1)) (pcN := 2) jI_339_0 rfl rfl rfl ?_
  refine jT_xiconst (k := 0) (pcN := 3) jI_339_2 rfl ?_
  refine jT_xaload_n (v := (4, 0)) (pcN := 4) jI_339_3 rfl rfl rfl ?_
  refine jT_xiload_n (v := (0, x1)) (pcN := 5) jI_339_4 rfl rfl rfl ?_
  refine jT_xiload_n (v := (0, x2)) (pcN := 6) jI_339_5 rfl rfl rfl ?_
  refine jT_xiload_n (v := (0, x3)) (pcN := 7) jI_339_6 rfl rfl rfl ?_
  exact jT_fX [0, 2, 3, 4, 5, 6, 7, 8, 9, 10, 11, 12] 13 (y := 132) (pcN := 10) (dC := 1) (bc1 := 1) (bc2 := 6) (as := [(4, 0), (0, x1), (0, x2), (0, x3)]) (asC := [(4, 0), (0, x1), (0, x2), (0, x3)]) (LN := [(0, (4, 0)), (1, (0, x1)), (2, (0, x2)), (3, (0, x3)), (4, (4, 1))]) (stN := [(0, 0), (4, 1)]) (hsC := jpA_6) (e := 0) (jA_132_610 (d := 0) (by omega) (by omega) (by omega)) (by rfl) (by rfl) (by decide +kernel) (by rfl) (by rfl) (by omega) (by omega) (by omega) (by omega) (show _ from ⟨rfl, rfl, rfl⟩)
theorem jA_252_612 {xs : List Int} {d : Nat} {x1 x2 x3 : Int} (h_x1 : 0 ≤ x1 ∧ x1 ≤ 3) (h_x2 : (-2147483648) ≤ x2 ∧ x2 ≤ 2147483647) (h_x3 : 8 ≤ x3 ∧ x3 ≤ 2147483647) : jT xs (d + 2) 252 16 0 [(0, (4, 0)), (1, (0, x1)), (2, (0, x2)), (3, (0, x3))] [] jpA_22 0 0 (fun k v hsN => k = 0 ∧ v = (0, 0) ∧ hsN = jpA_20) := by
  refine jT_xaload_n (v := (4, 0)) (pcN := 1) jI_252_0 rfl rfl rfl ?_
  refine jT_xiload_n (v := (0, x1)) (pcN := 2) jI_252_1 rfl rfl rfl ?_
  refine jT_fR [] 16 (y := 238) (pcN := 5) (dC := 1) (bc1 := 0) (bc2 := 0) (c1 := 0) (c2 := 0) (as := [(0, x1)]) (asC := [(0, x1)]) (LN := [(0, (4, 0)), (1, (0, x1)), (2, (0, x2)), (3, (0, x3))]) (stN := [(4, 0)]) (hsC := []) (v := (0, 1)) (st2 := [(0, 1), (4, 0)]) (jA_238_318 (d := 0) (by omega)) (by rfl) (by rfl) (by decide +kernel) (by rfl) (by rfl) (by omega) (by omega) (by omega) (by omega) rfl ?_
  refine jT_xifF (t := 19) (pcN := 8) jI_252_5 rfl (by decide +kernel) rfl rfl ?_
  refine jT_xiload_n (v := (0, x3)) (pcN := 9) jI_252_8 rfl rfl rfl ?_
  refine jT_fR [] 16 (y := 188) (pcN := 12) (dC := 1) (bc1 := 0) (bc2 := 0) (c1 := 0) (c2 := 0) (as := [(0, x3)]) (asC := [(0, x3)]) (LN := [(0, (4, 0)), (1, (0, x1)), (2, (0, x2)), (3, (0, x3))]) (stN := [(4, 0)]) (hsC := []) (v := (0, 0)) (st2 := [(0, 0), (4, 0)]) (jA_188_58 (d := 0) (by omega)) (by rfl) (by rfl) (by decide +kernel) (by rfl) (by rfl) (by omega) (by omega) (by omega) (by omega) rfl ?_
  refine jT_xifT (pcN := 19) jI_252_12 rfl (by decide +kernel) rfl ?_
  refine jT_xiconst (k := 0) (pcN := 20) jI_252_19 rfl ?_
  refine jT_fB [0, 1, 2, 3, 4, 5, 6, 7, 8, 9, 10, 11, 12, 13, 14, 15] 16 (y := 190) (pcN := 23) (dC := 1) (bc1 := 0) (bc2 := 0) (c1 := 0) (c2 := 0) (as := [(4, 0), (0, 0)]) (asC := [(4, 0), (0, 0)]) (LN := [(0, (4, 0)), (1, (0, x1)), (2, (0, x2)), (3, (0, x3))]) (stN := []) (hsC := jpA_22) (hsD := jpA_20) (v := (0, 1)) (st2 := [(0, 1)]) (hs2 := jpA_20) (jA_190_6 (d := 0)) (by rfl) (by rfl) (by decide +kernel) (by rfl) (by rfl) (by omega) (by omega) (by omega) (by omega) rfl (by decide +kernel) ?_
  refine jT_xifT (pcN := 45) jI_252_23 rfl (by decide +kernel) rfl ?_
  refine jT_xiconst (k := 0) (pcN := 46) jI_252_45 rfl ?_
  exact jT_ret rfl (by decide) (by show 16 ≤ 16; decide) (by omega) (by omega) ⟨rfl, rfl, rfl⟩
theorem jA_132_613 {xs : List Int} {d : Nat} {x1 x2 x3 : Int} (h_x1 : 4 ≤ x1 ∧ x1 ≤ 2147483647) (h_x2 : (-2147483648) ≤ x2 ∧ x2 ≤ 2147483647) (h_x3 : (-2147483648) ≤ x3 ∧ x3 ≤ 2147483647) : jT xs (d + 1) 132 12 0 [(0, (4, 0)), (1, (0, x1)), (2, (0, x2)), (3, (0, x3))] [] jpA_6 1 6 (fun k v hsN => k = 1 ∧ v = (0, 0) ∧ hsN = jpA_6 ++ []) := by
  refine jT_xaload_n (v := (4, 0)) (pcN := 1) jI_132_0 rfl rfl rfl ?_
  refine jT_xiload_n (v := (0, x1)) (pcN := 2) jI_132_1 rfl rfl rfl ?_
  refine jT_xiconst (k := 4) (pcN := 3) jI_132_2 rfl ?_
  exact jT_fX [0] 12 (y := 115) (pcN := 6) (dC := 0) (bc1 := 1) (bc2 := 6) (as := [(4, 0), (0, x1), (0, 4)]) (asC := [(4, 0), (0, x1), (0, 4)]) (LN := [(0, (4, 0)), (1, (0, x1)), (2, (0, x2)), (3, (0, x3))]) (stN := []) (hsC := [jgh]) (e := 0) (jA_115_405 (d := 0) (by omega)) (by rfl) (by rfl) (by decide +kernel) (by rfl) (by rfl) (by omega) (by omega) (by omega) (by omega) ⟨rfl, ⟨rfl, rfl, rfl⟩⟩
theorem jA_339_614 {xs : List Int} {d : Nat} {x1 x2 x3 : Int} (h_x1 : 4 ≤ x1 ∧ x1 ≤ 2147483647) (h_x2 : (-2147483648) ≤ x2 ∧ x2 ≤ 2147483647) (h_x3 : (-2147483648) ≤ x3 ∧ x3 ≤ 2147483647) : jT xs (d + 2) 339 13 0 [(0, (4, 0)), (1, (0, x1)), (2, (0, x2)), (3, (0, x3)), (4, (4, 1))] [] jpA_15 1 6 (fun k v hsN => k = 0 ∧ v = (0, 1) ∧ hsN = jpA_15 ++ []) := by
  refine jT_xaload (v := (4, 1)) (pcN := 2) jI_339_0 rfl rfl rfl ?_
  refine jT_xiconst (k := 0) (pcN := 3) jI_339_2 rfl ?_
  refine jT_xaload_n (v := (4, 0)) (pcN := 4) jI_339_3 rfl rfl rfl ?_
  refine jT_xiload_n (v := (0, x1)) (pcN := 5) jI_339_4 rfl rfl rfl ?_
  refine jT_xiload_n (v := (0, x2)) (pcN := 6) jI_339_5 rfl rfl rfl ?_
  refine jT_xiload_n (v := (0, x3)) (pcN := 7) jI_339_6 rfl rfl rfl ?_
  exact jT_fX [0, 2, 3, 4, 5, 6, 7, 8, 9, 10, 11, 12] 13 (y := 132) (pcN := 10) (dC := 1) (bc1 := 1) (bc2 := 6) (as := [(4, 0), (0, x1), (0, x2), (0, x3)]) (asC := [(4, 0), (0, x1), (0, x2), (0, x3)]) (LN := [(0, (4, 0)), (1, (0, x1)), (2, (0, x2)), (3, (0, x3)), (4, (4, 1))]) (stN := [(0, 0), (4, 1)]) (hsC := jpA_6) (e := 0) (jA_132_613 (d := 0) (by omega) (by omega) (by omega)) (by rfl) (by rfl) (by decide +kernel) (by rfl) (by rfl) (by omega) (by omega) (by omega) (by omega) (show _ from ⟨rfl, rfl, rfl⟩)
theorem jA_252_615 {xs : List Int} {d : Nat} {x1 x2 x3 : Int} (h_x1 : 4 ≤ x1 ∧ x1 ≤ 2147483647) (h_x2 : (-2147483648) ≤ x2 ∧ x2 ≤ 2147483647) (h_x3 : (-2147483648) ≤ x3 ∧ x3 ≤ 2147483647) : jT xs (d + 2) 252 16 0 [(0, (4, 0)), (1, (0, x1)), (2, (0, x2)), (3, (0, x3))] [] jpA_22 0 0 (fun k v hsN => k = 0 ∧ v = (0, 0) ∧ hsN = jpA_20) := by
  refine jT_xaload_n (v := (4, 0)) (pcN := 1) jI_252_0 rfl rfl rfl ?_
  refine jT_xiload_n (v := (0, x1)) (pcN := 2) jI_252_1 rfl rfl rfl ?_
  refine jT_fR [] 16 (y := 238) (pcN := 5) (dC := 1) (bc1 := 0) (bc2 := 0) (c1 := 0) (c2 := 0) (as := [(0, x1)]) (asC := [(0, x1)]) (LN := [(0, (4, 0)), (1, (0, x1)), (2, (0, x2)), (3, (0, x3))]) (stN := [(4, 0)]) (hsC := []) (v := (0, 0)) (st2 := [(0, 0), (4, 0)]) (jA_238_408 (d := 0) (by omega)) (by rfl) (by rfl) (by decide +kernel) (by rfl) (by rfl) (by omega) (by omega) (by omega) (by omega) rfl ?_
  refine jT_xifT (pcN := 19) jI_252_5 rfl (by decide +kernel) rfl ?_
  refine jT_xiconst (k := 0) (pcN := 20) jI_252_19 rfl ?_
  refine jT_fB [0, 1, 2, 3, 4, 5, 6, 7, 8, 9, 10, 11, 12, 13, 14, 15] 16 (y := 190) (pcN := 23) (dC := 1) (bc1 := 0) (bc2 := 0) (c1 := 0) (c2 := 0) (as := [(4, 0), (0, 0)]) (asC := [(4, 0), (0, 0)]) (LN := [(0, (4, 0)), (1, (0, x1)), (2, (0, x2)), (3, (0, x3))]) (stN := []) (hsC := jpA_22) (hsD := jpA_20) (v := (0, 1)) (st2 := [(0, 1)]) (hs2 := jpA_20) (jA_190_6 (d := 0)) (by rfl) (by rfl) (by decide +kernel) (by rfl) (by rfl) (by omega) (by omega) (by omega) (by omega) rfl (by decide +kernel) ?_
  refine jT_xifT (pcN := 45) jI_252_23 rfl (by decide +kernel) rfl ?_
  refine jT_xiconst (k := 0) (pcN := 46) jI_252_45 rfl ?_
  exact jT_ret rfl (by decide) (by show 16 ≤ 16; decide) (by omega) (by omega) ⟨rfl, rfl, rfl⟩
theorem jI_379_1314 : jmI (jm 379) 1314 = (.aload_n 1, 1) := by rfl
theorem jI_379_1315 : jmI (jm 379) 1315 = (.aload_n 0, 1) := by rfl
theorem jI_379_1316 : jmI (jm 379) 1316 = (.iload 5, 2) := by rfl
theorem jI_379_1318 : jmI (jm 379) 1318 = (.iconst 1, 1) := by rfl
theorem jI_379_1319 : jmI (jm 379) 1319 = (.iadd, 1) := by rfl
theorem jI_379_1321 : jmI (jm 379) 1321 = (.aload_n 0, 1) := by rfl
theorem jI_379_1322 : jmI (jm 379) 1322 = (.iload 5, 2) := by rfl
theorem jI_379_1324 : jmI (jm 379) 1324 = (.iconst 2, 1) := by rfl
theorem jI_379_1325 : jmI (jm 379) 1325 = (.iadd, 1) := by rfl
theorem jI_379_1327 : jmI (jm 379) 1327 = (.aload_n 0, 1) := by rfl
theorem jI_379_1328 : jmI (jm 379) 1328 = (.iload 5, 2) := by rfl
theorem jI_379_1330 : jmI (jm 379) 1330 = (.iconst 3, 1) := by rfl
theorem jI_379_1331 : jmI (jm 379) 1331 = (.iadd, 1) := by rfl
theorem jI_379_1333 : jmI (jm 379) 1333 = (.aload_n 3, 1) := by rfl
theorem jI_379_1337 : jmI (jm 379) 1337 = (.istore 6, 2) := by rfl
theorem jI_379_1339 : jmI (jm 379) 1339 = (.aload_n 2, 1) := by rfl
theorem jI_379_1340 : jmI (jm 379) 1340 = (.aload_n 0, 1) := by rfl
theorem jI_379_1341 : jmI (jm 379) 1341 = (.iload 5, 2) := by rfl
theorem jI_379_1343 : jmI (jm 379) 1343 = (.iconst 1, 1) := by rfl
theorem jI_379_1344 : jmI (jm 379) 1344 = (.iadd, 1) := by rfl
theorem jI_379_1346 : jmI (jm 379) 1346 = (.aload_n 0, 1) := by rfl
theorem jI_379_1347 : jmI (jm 379) 1347 = (.iload 5, 2) := by rfl
theorem jI_379_1349 : jmI (jm 379) 1349 = (.iconst 2, 1) := by rfl
theorem jI_379_1350 : jmI (jm 379) 1350 = (.iadd, 1) := by rfl
theorem jI_379_1352 : jmI (jm 379) 1352 = (.aload_n 0, 1) := by rfl
theorem jI_379_1353 : jmI (jm 379) 1353 = (.iload 5, 2) := by rfl
theorem jI_379_1355 : jmI (jm 379) 1355 = (.iconst 3, 1) := by rfl
theorem jI_379_1356 : jmI (jm 379) 1356 = (.iadd, 1) := by rfl
theorem jI_379_1361 : jmI (jm 379) 1361 = (.istore 7, 2) := by rfl
theorem jI_379_1363 : jmI (jm 379) 1363 = (.aload_n 2, 1) := by rfl
theorem jI_379_1367 : jmI (jm 379) 1367 = (.iload 6, 2) := by rfl
theorem jI_379_1369 : jmI (jm 379) 1369 = (.if_icmp .eq 5, 3) := by rfl
theorem jI_379_1374 : jmI (jm 379) 1374 = (.iload 6, 2) := by rfl
theorem jI_379_1376 : jmI (jm 379) 1376 = (.ifCond .ne 15, 3) := by rfl
theorem jI_379_1391 : jmI (jm 379) 1391 = (.goto 2349, 3) := by rfl
set_option maxRecDepth 100000 in
theorem jL_13_0 {d : Nat} {x0 x1 x2 x3 x4 : Int} (h_x0 : (-2147483648) ≤ x0 ∧ x0 ≤ 2147483647) (h_x1 : (-2147483648) ≤ x1 ∧ x1 ≤ (-1)) (h_x2 : (-2147483648) ≤ x2 ∧ x2 ≤ 2147483647) (h_x3 : (-2147483648) ≤ x3 ∧ x3 ≤ 2147483647) (h_x4 : (-2147483648) ≤ x4 ∧ x4 ≤ 2147483647) : jT [x0, x1, x2, x3, x4] (d + 3) 379 30 1314 [(5, (0, 0)), (4, (4, 3)), (3, (4, 2)), (2, (4, 1)), (1, (4, 0)), (0, (6, 0))] [] jpA_267 1 6 (fun k v hsN => k = 0 ∧ v = (0, 1)) := by
  refine jT_xaload_n (v := (4, 0)) (pcN := 1315) jI_379_1314 rfl rfl rfl ?_
  refine jT_xaload_n (v := (6, 0)) (pcN := 1316) jI_379_1315 rfl rfl rfl ?_
  refine jT_xiload (v := (0, 0)) (pcN := 1318) jI_379_1316 rfl rfl rfl ?_
  refine jT_xiconst (k := 1) (pcN := 1319) jI_379_1318 rfl ?_
  refine jT_xiadd (x := 0) (y := 1) (z := 1) (pcN := 1320) jI_379_1319 rfl (by decide) rfl ?_
  refine jT_adv 1 (pcN := 1321) (LN := [(5, (0, 0)), (4, (4, 3)), (3, (4, 2)), (2, (4, 1)), (1, (4, 0)), (0, (6, 0))]) (stN := [(0, x1), (4, 0)]) (hsN := jpA_267) (c1 := 0) (s1 := 0) (c2 := 1) (s2 := 6) (by exact rfl) ?_ (by omega) (by omega)
  refine jT_xaload_n (v := (6, 0)) (pcN := 1322) jI_379_1321 rfl rfl rfl ?_
  refine jT_xiload (v := (0, 0)) (pcN := 1324) jI_379_1322 rfl rfl rfl ?_
  refine jT_xiconst (k := 2) (pcN := 1325) jI_379_1324 rfl ?_
  refine jT_xiadd (x := 0) (y := 2) (z := 2) (pcN := 1326) jI_379_1325 rfl (by decide) rfl ?_
  refine jT_adv 1 (pcN := 1327) (LN := [(5, (0, 0)), (4, (4, 3)), (3, (4, 2)), (2, (4, 1)), (1, (4, 0)), (0, (6, 0))]) (stN := [(0, x2), (0, x1), (4, 0)]) (hsN := jpA_267) (c1 := 0) (s1 := 0) (c2 := 1) (s2 := 6) (by exact rfl) ?_ (by omega) (by omega)
  refine jT_xaload_n (v := (6, 0)) (pcN := 1328) jI_379_1327 rfl rfl rfl ?_
  refine jT_xiload (v := (0, 0)) (pcN := 1330) jI_379_1328 rfl rfl rfl ?_
  refine jT_xiconst (k := 3) (pcN := 1331) jI_379_1330 rfl ?_
  refine jT_xiadd (x := 0) (y := 3) (z := 3) (pcN := 1332) jI_379_1331 rfl (by decide) rfl ?_
  refine jT_adv 1 (pcN := 1333) (LN := [(5, (0, 0)), (4, (4, 3)), (3, (4, 2)), (2, (4, 1)), (1, (4, 0)), (0, (6, 0))]) (stN := [(0, x3), (0, x2), (0, x1), (4, 0)]) (hsN := jpA_267) (c1 := 0) (s1 := 0) (c2 := 1) (s2 := 6) (by exact rfl) ?_ (by omega) (by omega)
  refine jT_xaload_n (v := (4, 2)) (pcN := 1334) jI_379_1333 rfl rfl rfl ?_
  refine jT_fR [0, 2, 4, 5, 6, 7, 8, 9, 10, 11, 12, 13, 14] 30 (y := 339) (pcN := 1337) (dC := 2) (bc1 := 1) (bc2 := 6) (c1 := 0) (c2 := 0) (as := [(4, 0), (0, x1), (0, x2), (0, x3), (4, 2)]) (asC := [(4, 0), (0, x1), (0, x2), (0, x3), (4, 1)]) (LN := [(5, (0, 0)), (4, (4, 3)), (3, (4, 2)), (2, (4, 1)), (1, (4, 0)), (0, (6, 0))]) (stN := []) (hsC := jpA_15) (v := (0, 1)) (st2 := [(0, 1)]) (jA_339_528 (d := 0) (by omega) (by omega) (by omega)) (by rfl) (by rfl) (by decide +kernel) (by rfl) (by rfl) (by omega) (by omega) (by omega) (by omega) rfl ?_
  refine jT_xistore (v := (0, 1)) (LN := [(6, (0, 1)), (5, (0, 0)), (4, (4, 3)), (3, (4, 2)), (2, (4, 1)), (1, (4, 0)), (0, (6, 0))]) (pcN := 1339) jI_379_1337 rfl rfl rfl rfl ?_
  refine jT_xaload_n (v := (4, 1)) (pcN := 1340) jI_379_1339 rfl rfl rfl ?_
  refine jT_xaload_n (v := (6, 0)) (pcN := 1341) jI_379_1340 rfl rfl rfl ?_
  refine jT_xiload (v := (0, 0)) (pcN := 1343) jI_379_1341 rfl rfl rfl ?_
  refine jT_xiconst (k := 1) (pcN := 1344) jI_379_1343 rfl ?_
  refine jT_xiadd (x := 0) (y := 1) (z := 1) (pcN := 1345) jI_379_1344 rfl (by decide) rfl ?_
  refine jT_adv 1 (pcN := 1346) (LN := [(6, (0, 1)), (5, (0, 0)), (4, (4, 3)), (3, (4, 2)), (2, (4, 1)), (1, (4, 0)), (0, (6, 0))]) (stN := [(0, x1), (4, 1)]) (hsN := jpA_267) (c1 := 0) (s1 := 0) (c2 := 0) (s2 := 0) (by exact rfl) ?_ (by omega) (by omega)
  refine jT_xaload_n (v := (6, 0)) (pcN := 1347) jI_379_1346 rfl rfl rfl ?_
  refine jT_xiload (v := (0, 0)) (pcN := 1349) jI_379_1347 rfl rfl rfl ?_
  refine jT_xiconst (k := 2) (pcN := 1350) jI_379_1349 rfl ?_
  refine jT_xiadd (x := 0) (y := 2) (z := 2) (pcN := 1351) jI_379_1350 rfl (by decide) rfl ?_
  refine jT_adv 1 (pcN := 1352) (LN := [(6, (0, 1)), (5, (0, 0)), (4, (4, 3)), (3, (4, 2)), (2, (4, 1)), (1, (4, 0)), (0, (6, 0))]) (stN := [(0, x2), (0, x1), (4, 1)]) (hsN := jpA_267) (c1 := 0) (s1 := 0) (c2 := 0) (s2 := 0) (by exact rfl) ?_ (by omega) (by omega)
  refine jT_xaload_n (v := (6, 0)) (pcN := 1353) jI_379_1352 rfl rfl rfl ?_
  refine jT_xiload (v := (0, 0)) (pcN := 1355) jI_379_1353 rfl rfl rfl ?_
  refine jT_xiconst (k := 3) (pcN := 1356) jI_379_1355 rfl ?_
  refine jT_xiadd (x := 0) (y := 3) (z := 3) (pcN := 1357) jI_379_1356 rfl (by decide) rfl ?_
  refine jT_adv 1 (pcN := 1358) (LN := [(6, (0, 1)), (5, (0, 0)), (4, (4, 3)), (3, (4, 2)), (2, (4, 1)), (1, (4, 0)), (0, (6, 0))]) (stN := [(0, x3), (0, x2), (0, x1), (4, 1)]) (hsN := jpA_267) (c1 := 0) (s1 := 0) (c2 := 0) (s2 := 0) (by exact rfl) ?_ (by omega) (by omega)
  refine jT_fB [1, 15, 16, 17, 18, 19, 20, 21, 22, 23, 24, 25, 26, 27, 28, 29] 30 (y := 252) (pcN := 1361) (dC := 2) (bc1 := 0) (bc2 := 0) (c1 := 0) (c2 := 0) (as := [(4, 1), (0, x1), (0, x2), (0, x3)]) (asC := [(4, 0), (0, x1), (0, x2), (0, x3)]) (LN := [(6, (0, 1)), (5, (0, 0)), (4, (4, 3)), (3, (4, 2)), (2, (4, 1)), (1, (4, 0)), (0, (6, 0))]) (stN := []) (hsC := jpA_22) (hsD := jpA_20) (v := (0, 0)) (st2 := [(0, 0)]) (hs2 := jpA_306) (jA_252_529 (d := 0) (by omega) (by omega) (by omega)) (by rfl) (by rfl) (by decide +kernel) (by rfl) (by rfl) (by omega) (by omega) (by omega) (by omega) rfl (by decide +kernel) ?_
  refine jT_xistore (v := (0, 0)) (LN := [(7, (0, 0)), (6, (0, 1)), (5, (0, 0)), (4, (4, 3)), (3, (4, 2)), (2, (4, 1)), (1, (4, 0)), (0, (6, 0))]) (pcN := 1363) jI_379_1361 rfl rfl rfl rfl ?_
  refine jT_xaload_n (v := (4, 1)) (pcN := 1364) jI_379_1363 rfl rfl rfl ?_
  refine jT_fR [1, 15, 16, 17, 18, 19, 20, 21, 22, 23, 24, 25, 26, 27, 28, 29] 30 (y := 186) (pcN := 1367) (dC := 0) (bc1 := 0) (bc2 := 0) (c1 := 0) (c2 := 0) (as := [(4, 1)]) (asC := [(4, 0)]) (LN := [(7, (0, 0)), (6, (0, 1)), (5, (0, 0)), (4, (4, 3)), (3, (4, 2)), (2, (4, 1)), (1, (4, 0)), (0, (6, 0))]) (stN := []) (hsC := jpA_20) (v := (0, 1)) (st2 := [(0, 1)]) (jA_186_8 (d := 0)) (by rfl) (by rfl) (by decide +kernel) (by rfl) (by rfl) (by omega) (by omega) (by omega) (by omega) rfl ?_
  refine jT_xiload (v := (0, 1)) (pcN := 1369) jI_379_1367 rfl rfl rfl ?_
  refine jT_xicT (pcN := 1374) jI_379_1369 rfl (by decide +kernel) rfl ?_
  refine jT_xiload (v := (0, 1)) (pcN := 1376) jI_379_1374 rfl rfl rfl ?_
  refine jT_xifT (pcN := 1391) jI_379_1376 rfl (by decide +kernel) rfl ?_
  refine jT_xgoto (pcN := 3740) jI_379_1391 rfl ?_
  refine jT_xiinc (x := 0) (z := 5) (LN := [(5, (0, 5)), (7, (0, 0)), (6, (0, 1)), (4, (4, 3)), (3, (4, 2)), (2, (4, 1)), (1, (4, 0)), (0, (6, 0))]) (pcN := 3743) jI_379_3740 rfl rfl (by decide) rfl rfl ?_
  refine jT_xgoto (pcN := 28) jI_379_3743 rfl ?_
  refine jT_xiload (v := (0, 5)) (pcN := 30) jI_379_28 rfl rfl rfl ?_
  refine jT_xaload_n (v := (6, 0)) (pcN := 31) jI_379_30 rfl rfl rfl ?_
  refine jT_adv 1 (pcN := 32) (LN := [(5, (0, 5)), (7, (0, 0)), (6, (0, 1)), (4, (4, 3)), (3, (4, 2)), (2, (4, 1)), (1, (4, 0)), (0, (6, 0))]) (stN := [(0, 5), (0, 5)]) (hsN := jpA_306) (c1 := 0) (s1 := 0) (c2 := 0) (s2 := 0) (by exact rfl) ?_ (by omega) (by omega)
  refine jT_xiconst (k := 5) (pcN := 33) jI_379_32 rfl ?_
  refine jT_xisub (x := 5) (y := 5) (z := 0) (pcN := 34) jI_379_33 rfl (by decide) rfl ?_
  refine jT_xicT (pcN := 3746) jI_379_34 rfl (by decide +kernel) rfl ?_
  refine jT_xiconst (k := 1) (pcN := 3747) jI_379_3746 rfl ?_
  exact jT_ret rfl (by decide) (by show 30 ≤ 30; decide) (by omega) (by omega) ⟨rfl, rfl⟩
set_option maxRecDepth 100000 in
theorem jL_13_1 {d : Nat} {x0 x1 x2 x3 x4 : Int} (h_x0 : (-2147483648) ≤ x0 ∧ x0 ≤ 2147483647) (h_x1 : 0 ≤ x1 ∧ x1 ≤ 3) (h_x2 : (-2147483648) ≤ x2 ∧ x2 ≤ 2147483647) (h_x3 : (-2147483648) ≤ x3 ∧ x3 ≤ (-1)) (h_x4 : (-2147483648) ≤ x4 ∧ x4 ≤ 2147483647) : jT [x0, x1, x2, x3, x4] (d + 3) 379 30 1314 [(5, (0, 0)), (4, (4, 3)), (3, (4, 2)), (2, (4, 1)), (1, (4, 0)), (0, (6, 0))] [] jpA_267 1 6 (fun k v hsN => k = 0 ∧ v = (0, 1)) := by
  refine jT_xaload_n (v := (4, 0)) (pcN := 1315) jI_379_1314 rfl rfl rfl ?_
  refine jT_xaload_n (v := (6, 0)) (pcN := 1316) jI_379_1315 rfl rfl rfl ?_
  refine jT_xiload (v := (0, 0)) (pcN := 1318) jI_379_1316 rfl rfl rfl ?_
  refine jT_xiconst (k := 1) (pcN := 1319) jI_379_1318 rfl ?_
  refine jT_xiadd (x := 0) (y := 1) (z := 1) (pcN := 1320) jI_379_1319 rfl (by decide) rfl ?_
  refine jT_adv 1 (pcN := 1321) (LN := [(5, (0, 0)), (4, (4, 3)), (3, (4, 2)), (2, (4, 1)), (1, (4, 0)), (0, (6, 0))]) (stN := [(0, x1), (4, 0)]) (hsN := jpA_267) (c1 := 0) (s1 := 0) (c2 := 1) (s2 := 6) (by exact rfl) ?_ (by omega) (by omega)
  refine jT_xaload_n (v := (6, 0)) (pcN := 1322) jI_379_1321 rfl rfl rfl ?_
  refine jT_xiload (v := (0, 0)) (pcN := 1324) jI_379_1322 rfl rfl rfl ?_
  refine jT_xiconst (k := 2) (pcN := 1325) jI_379_1324 rfl ?_
  refine jT_xiadd (x := 0) (y := 2) (z := 2) (pcN := 1326) jI_379_1325 rfl (by decide) rfl ?_
  refine jT_adv 1 (pcN := 1327) (LN := [(5, (0, 0)), (4, (4, 3)), (3, (4, 2)), (2, (4, 1)), (1, (4, 0)), (0, (6, 0))]) (stN := [(0, x2), (0, x1), (4, 0)]) (hsN := jpA_267) (c1 := 0) (s1 := 0) (c2 := 1) (s2 := 6) (by exact rfl) ?_ (by omega) (by omega)
  refine jT_xaload_n (v := (6, 0)) (pcN := 1328) jI_379_1327 rfl rfl rfl ?_
  refine jT_xiload (v := (0, 0)) (pcN := 1330) jI_379_1328 rfl rfl rfl ?_
  refine jT_xiconst (k := 3) (pcN := 1331) jI_379_1330 rfl ?_
  refine jT_xiadd (x := 0) (y := 3) (z := 3) (pcN := 1332) jI_379_1331 rfl (by decide) rfl ?_
  refine jT_adv 1 (pcN := 1333) (LN := [(5, (0, 0)), (4, (4, 3)), (3, (4, 2)), (2, (4, 1)), (1, (4, 0)), (0, (6, 0))]) (stN := [(0, x3), (0, x2), (0, x1), (4, 0)]) (hsN := jpA_267) (c1 := 0) (s1 := 0) (c2 := 1) (s2 := 6) (by exact rfl) ?_ (by omega) (by omega)
  refine jT_xaload_n (v := (4, 2)) (pcN := 1334) jI_379_1333 rfl rfl rfl ?_
  refine jT_fR [0, 2, 4, 5, 6, 7, 8, 9, 10, 11, 12, 13, 14] 30 (y := 339) (pcN := 1337) (dC := 2) (bc1 := 1) (bc2 := 6) (c1 := 0) (c2 := 0) (as := [(4, 0), (0, x1), (0, x2), (0, x3), (4, 2)]) (asC := [(4, 0), (0, x1), (0, x2), (0, x3), (4, 1)]) (LN := [(5, (0, 0)), (4, (4, 3)), (3, (4, 2)), (2, (4, 1)), (1, (4, 0)), (0, (6, 0))]) (stN := []) (hsC := jpA_15) (v := (0, 1)) (st2 := [(0, 1)]) (jA_339_531 (d := 0) (by omega) (by omega) (by omega)) (by rfl) (by rfl) (by decide +kernel) (by rfl) (by rfl) (by omega) (by omega) (by omega) (by omega) rfl ?_
  refine jT_xistore (v := (0, 1)) (LN := [(6, (0, 1)), (5, (0, 0)), (4, (4, 3)), (3, (4, 2)), (2, (4, 1)), (1, (4, 0)), (0, (6, 0))]) (pcN := 1339) jI_379_1337 rfl rfl rfl rfl ?_
  refine jT_xaload_n (v := (4, 1)) (pcN := 1340) jI_379_1339 rfl rfl rfl ?_
  refine jT_xaload_n (v := (6, 0)) (pcN := 1341) jI_379_1340 rfl rfl rfl ?_
  refine jT_xiload (v := (0, 0)) (pcN := 1343) jI_379_1341 rfl rfl rfl ?_
  refine jT_xiconst (k := 1) (pcN := 1344) jI_379_1343 rfl ?_
  refine jT_xiadd (x := 0) (y := 1) (z := 1) (pcN := 1345) jI_379_1344 rfl (by decide) rfl ?_
  refine jT_adv 1 (pcN := 1346) (LN := [(6, (0, 1)), (5, (0, 0)), (4, (4, 3)), (3, (4, 2)), (2, (4, 1)), (1, (4, 0)), (0, (6, 0))]) (stN := [(0, x1), (4, 1)]) (hsN := jpA_267) (c1 := 0) (s1 := 0) (c2 := 0) (s2 := 0) (by exact rfl) ?_ (by omega) (by omega)
  refine jT_xaload_n (v := (6, 0)) (pcN := 1347) jI_379_1346 rfl rfl rfl ?_
  refine jT_xiload (v := (0, 0)) (pcN := 1349) jI_379_1347 rfl rfl rfl ?_
  refine jT_xiconst (k := 2) (pcN := 1350) jI_379_1349 rfl ?_
  refine jT_xiadd (x := 0) (y := 2) (z := 2) (pcN := 1351) jI_379_1350 rfl (by decide) rfl ?_
  refine jT_adv 1 (pcN := 1352) (LN := [(6, (0, 1)), (5, (0, 0)), (4, (4, 3)), (3, (4, 2)), (2, (4, 1)), (1, (4, 0)), (0, (6, 0))]) (stN := [(0, x2), (0, x1), (4, 1)]) (hsN := jpA_267) (c1 := 0) (s1 := 0) (c2 := 0) (s2 := 0) (by exact rfl) ?_ (by omega) (by omega)
  refine jT_xaload_n (v := (6, 0)) (pcN := 1353) jI_379_1352 rfl rfl rfl ?_
  refine jT_xiload (v := (0, 0)) (pcN := 1355) jI_379_1353 rfl rfl rfl ?_
  refine jT_xiconst (k := 3) (pcN := 1356) jI_379_1355 rfl ?_
  refine jT_xiadd (x := 0) (y := 3) (z := 3) (pcN := 1357) jI_379_1356 rfl (by decide) rfl ?_
  refine jT_adv 1 (pcN := 1358) (LN := [(6, (0, 1)), (5, (0, 0)), (4, (4, 3)), (3, (4, 2)), (2, (4, 1)), (1, (4, 0)), (0, (6, 0))]) (stN := [(0, x3), (0, x2), (0, x1), (4, 1)]) (hsN := jpA_267) (c1 := 0) (s1 := 0) (c2 := 0) (s2 := 0) (by exact rfl) ?_ (by omega) (by omega)
  refine jT_fB [1, 15, 16, 17, 18, 19, 20, 21, 22, 23, 24, 25, 26, 27, 28, 29] 30 (y := 252) (pcN := 1361) (dC := 2) (bc1 := 0) (bc2 := 0) (c1 := 0) (c2 := 0) (as := [(4, 1), (0, x1), (0, x2), (0, x3)]) (asC := [(4, 0), (0, x1), (0, x2), (0, x3)]) (LN := [(6, (0, 1)), (5, (0, 0)), (4, (4, 3)), (3, (4, 2)), (2, (4, 1)), (1, (4, 0)), (0, (6, 0))]) (stN := []) (hsC := jpA_22) (hsD := jpA_20) (v := (0, 0)) (st2 := [(0, 0)]) (hs2 := jpA_306) (jA_252_532 (d := 0) (by omega) (by omega) (by omega)) (by rfl) (by rfl) (by decide +kernel) (by rfl) (by rfl) (by omega) (by omega) (by omega) (by omega) rfl (by decide +kernel) ?_
  refine jT_xistore (v := (0, 0)) (LN := [(7, (0, 0)), (6, (0, 1)), (5, (0, 0)), (4, (4, 3)), (3, (4, 2)), (2, (4, 1)), (1, (4, 0)), (0, (6, 0))]) (pcN := 1363) jI_379_1361 rfl rfl rfl rfl ?_
  refine jT_xaload_n (v := (4, 1)) (pcN := 1364) jI_379_1363 rfl rfl rfl ?_
  refine jT_fR [1, 15, 16, 17, 18, 19, 20, 21, 22, 23, 24, 25, 26, 27, 28, 29] 30 (y := 186) (pcN := 1367) (dC := 0) (bc1 := 0) (bc2 := 0) (c1 := 0) (c2 := 0) (as := [(4, 1)]) (asC := [(4, 0)]) (LN := [(7, (0, 0)), (6, (0, 1)), (5, (0, 0)), (4, (4, 3)), (3, (4, 2)), (2, (4, 1)), (1, (4, 0)), (0, (6, 0))]) (stN := []) (hsC := jpA_20) (v := (0, 1)) (st2 := [(0, 1)]) (jA_186_8 (d := 0)) (by rfl) (by rfl) (by decide +kernel) (by rfl) (by rfl) (by omega) (by omega) (by omega) (by omega) rfl ?_
  refine jT_xiload (v := (0, 1)) (pcN := 1369) jI_379_1367 rfl rfl rfl ?_
  refine jT_xicT (pcN := 1374) jI_379_1369 rfl (by decide +kernel) rfl ?_
  refine jT_xiload (v := (0, 1)) (pcN := 1376) jI_379_1374 rfl rfl rfl ?_
  refine jT_xifT (pcN := 1391) jI_379_1376 rfl (by decide +kernel) rfl ?_
  refine jT_xgoto (pcN := 3740) jI_379_1391 rfl ?_
  refine jT_xiinc (x := 0) (z := 5) (LN := [(5, (0, 5)), (7, (0, 0)), (6, (0, 1)), (4, (4, 3)), (3, (4, 2)), (2, (4, 1)), (1, (4, 0)), (0, (6, 0))]) (pcN := 3743) jI_379_3740 rfl rfl (by decide) rfl rfl ?_
  refine jT_xgoto (pcN := 28) jI_379_3743 rfl ?_
  refine jT_xiload (v := (0, 5)) (pcN := 30) jI_379_28 rfl rfl rfl ?_
  refine jT_xaload_n (v := (6, 0)) (pcN := 31) jI_379_30 rfl rfl rfl ?_
  refine jT_adv 1 (pcN := 32) (LN := [(5, (0, 5)), (7, (0, 0)), (6, (0, 1)), (4, (4, 3)), (3, (4, 2)), (2, (4, 1)), (1, (4, 0)), (0, (6, 0))]) (stN := [(0, 5), (0, 5)]) (hsN := jpA_306) (c1 := 0) (s1 := 0) (c2 := 0) (s2 := 0) (by exact rfl) ?_ (by omega) (by omega)
  refine jT_xiconst (k := 5) (pcN := 33) jI_379_32 rfl ?_
  refine jT_xisub (x := 5) (y := 5) (z := 0) (pcN := 34) jI_379_33 rfl (by decide) rfl ?_
  refine jT_xicT (pcN := 3746) jI_379_34 rfl (by decide +kernel) rfl ?_
  refine jT_xiconst (k := 1) (pcN := 3747) jI_379_3746 rfl ?_
  exact jT_ret rfl (by decide) (by show 30 ≤ 30; decide) (by omega) (by omega) ⟨rfl, rfl⟩
set_option maxRecDepth 100000 in
theorem jL_13_2 {d : Nat} {x0 x1 x2 x3 x4 : Int} (h_x0 : (-2147483648) ≤ x0 ∧ x0 ≤ 2147483647) (h_x1 : 0 ≤ x1 ∧ x1 ≤ 3) (h_x2 : (-2147483648) ≤ x2 ∧ x2 ≤ (-201)) (h_x3 : 0 ≤ x3 ∧ x3 ≤ 7) (h_x4 : (-2147483648) ≤ x4 ∧ x4 ≤ 2147483647) : jT [x0, x1, x2, x3, x4] (d + 3) 379 30 1314 [(5, (0, 0)), (4, (4, 3)), (3, (4, 2)), (2, (4, 1)), (1, (4, 0)), (0, (6, 0))] [] jpA_267 1 6 (fun k v hsN => k = 0 ∧ v = (0, 1)) := by
  refine jT_xaload_n (v := (4, 0)) (pcN := 1315) jI_379_1314 rfl rfl rfl ?_
  refine jT_xaload_n (v := (6, 0)) (pcN := 1316) jI_379_1315 rfl rfl rfl ?_
  refine jT_xiload (v := (0, 0)) (pcN := 1318) jI_379_1316 rfl rfl rfl ?_
  refine jT_xiconst (k := 1) (pcN := 1319) jI_379_1318 rfl ?_
  refine jT_xiadd (x := 0) (y := 1) (z := 1) (pcN := 1320) jI_379_1319 rfl (by decide) rfl ?_
  refine jT_adv 1 (pcN := 1321) (LN := [(5, (0, 0)), (4, (4, 3)), (3, (4, 2)), (2, (4, 1)), (1, (4, 0)), (0, (6, 0))]) (stN := [(0, x1), (4, 0)]) (hsN := jpA_267) (c1 := 0) (s1 := 0) (c2 := 1) (s2 := 6) (by exact rfl) ?_ (by omega) (by omega)
  refine jT_xaload_n (v := (6, 0)) (pcN := 1322) jI_379_1321 rfl rfl rfl ?_
  refine jT_xiload (v := (0, 0)) (pcN := 1324) jI_379_1322 rfl rfl rfl ?_
  refine jT_xiconst (k := 2) (pcN := 1325) jI_379_1324 rfl ?_
  refine jT_xiadd (x := 0) (y := 2) (z := 2) (pcN := 1326) jI_379_1325 rfl (by decide) rfl ?_
  refine jT_adv 1 (pcN := 1327) (LN := [(5, (0, 0)), (4, (4, 3)), (3, (4, 2)), (2, (4, 1)), (1, (4, 0)), (0, (6, 0))]) (stN := [(0, x2), (0, x1), (4, 0)]) (hsN := jpA_267) (c1 := 0) (s1 := 0) (c2 := 1) (s2 := 6) (by exact rfl) ?_ (by omega) (by omega)
  refine jT_xaload_n (v := (6, 0)) (pcN := 1328) jI_379_1327 rfl rfl rfl ?_
  refine jT_xiload (v := (0, 0)) (pcN := 1330) jI_379_1328 rfl rfl rfl ?_
  refine jT_xiconst (k := 3) (pcN := 1331) jI_379_1330 rfl ?_
  refine jT_xiadd (x := 0) (y := 3) (z := 3) (pcN := 1332) jI_379_1331 rfl (by decide) rfl ?_
  refine jT_adv 1 (pcN := 1333) (LN := [(5, (0, 0)), (4, (4, 3)), (3, (4, 2)), (2, (4, 1)), (1, (4, 0)), (0, (6, 0))]) (stN := [(0, x3), (0, x2), (0, x1), (4, 0)]) (hsN := jpA_267) (c1 := 0) (s1 := 0) (c2 := 1) (s2 := 6) (by exact rfl) ?_ (by omega) (by omega)
  refine jT_xaload_n (v := (4, 2)) (pcN := 1334) jI_379_1333 rfl rfl rfl ?_
  refine jT_fR [0, 2, 4, 5, 6, 7, 8, 9, 10, 11, 12, 13, 14] 30 (y := 339) (pcN := 1337) (dC := 2) (bc1 := 1) (bc2 := 6) (c1 := 0) (c2 := 0) (as := [(4, 0), (0, x1), (0, x2), (0, x3), (4, 2)]) (asC := [(4, 0), (0, x1), (0, x2), (0, x3), (4, 1)]) (LN := [(5, (0, 0)), (4, (4, 3)), (3, (4, 2)), (2, (4, 1)), (1, (4, 0)), (0, (6, 0))]) (stN := []) (hsC := jpA_15) (v := (0, 2)) (st2 := [(0, 2)]) (jA_339_535 (d := 0) (by omega) (by omega) (by omega)) (by rfl) (by rfl) (by decide +kernel) (by rfl) (by rfl) (by omega) (by omega) (by omega) (by omega) rfl ?_
  refine jT_xistore (v := (0, 2)) (LN := [(6, (0, 2)), (5, (0, 0)), (4, (4, 3)), (3, (4, 2)), (2, (4, 1)), (1, (4, 0)), (0, (6, 0))]) (pcN := 1339) jI_379_1337 rfl rfl rfl rfl ?_
  refine jT_xaload_n (v := (4, 1)) (pcN := 1340) jI_379_1339 rfl rfl rfl ?_
  refine jT_xaload_n (v := (6, 0)) (pcN := 1341) jI_379_1340 rfl rfl rfl ?_
  refine jT_xiload (v := (0, 0)) (pcN := 1343) jI_379_1341 rfl rfl rfl ?_
  refine jT_xiconst (k := 1) (pcN := 1344) jI_379_1343 rfl ?_
  refine jT_xiadd (x := 0) (y := 1) (z := 1) (pcN := 1345) jI_379_1344 rfl (by decide) rfl ?_
  refine jT_adv 1 (pcN := 1346) (LN := [(6, (0, 2)), (5, (0, 0)), (4, (4, 3)), (3, (4, 2)), (2, (4, 1)), (1, (4, 0)), (0, (6, 0))]) (stN := [(0, x1), (4, 1)]) (hsN := jpA_267) (c1 := 0) (s1 := 0) (c2 := 0) (s2 := 0) (by exact rfl) ?_ (by omega) (by omega)
  refine jT_xaload_n (v := (6, 0)) (pcN := 1347) jI_379_1346 rfl rfl rfl ?_
  refine jT_xiload (v := (0, 0)) (pcN := 1349) jI_379_1347 rfl rfl rfl ?_
  refine jT_xiconst (k := 2) (pcN := 1350) jI_379_1349 rfl ?_
  refine jT_xiadd (x := 0) (y := 2) (z := 2) (pcN := 1351) jI_379_1350 rfl (by decide) rfl ?_
  refine jT_adv 1 (pcN := 1352) (LN := [(6, (0, 2)), (5, (0, 0)), (4, (4, 3)), (3, (4, 2)), (2, (4, 1)), (1, (4, 0)), (0, (6, 0))]) (stN := [(0, x2), (0, x1), (4, 1)]) (hsN := jpA_267) (c1 := 0) (s1 := 0) (c2 := 0) (s2 := 0) (by exact rfl) ?_ (by omega) (by omega)
  refine jT_xaload_n (v := (6, 0)) (pcN := 1353) jI_379_1352 rfl rfl rfl ?_
  refine jT_xiload (v := (0, 0)) (pcN := 1355) jI_379_1353 rfl rfl rfl ?_
  refine jT_xiconst (k := 3) (pcN := 1356) jI_379_1355 rfl ?_
  refine jT_xiadd (x := 0) (y := 3) (z := 3) (pcN := 1357) jI_379_1356 rfl (by decide) rfl ?_
  refine jT_adv 1 (pcN := 1358) (LN := [(6, (0, 2)), (5, (0, 0)), (4, (4, 3)), (3, (4, 2)), (2, (4, 1)), (1, (4, 0)), (0, (6, 0))]) (stN := [(0, x3), (0, x2), (0, x1), (4, 1)]) (hsN := jpA_267) (c1 := 0) (s1 := 0) (c2 := 0) (s2 := 0) (by exact rfl) ?_ (by omega) (by omega)
  refine jT_fB [1, 15, 16, 17, 18, 19, 20, 21, 22, 23, 24, 25, 26, 27, 28, 29] 30 (y := 252) (pcN := 1361) (dC := 2) (bc1 := 0) (bc2 := 0) (c1 := 0) (c2 := 0) (as := [(4, 1), (0, x1), (0, x2), (0, x3)]) (asC := [(4, 0), (0, x1), (0, x2), (0, x3)]) (LN := [(6, (0, 2)), (5, (0, 0)), (4, (4, 3)), (3, (4, 2)), (2, (4, 1)), (1, (4, 0)), (0, (6, 0))]) (stN := []) (hsC := jpA_22) (hsD := jpA_361) (v := (0, 0)) (st2 := [(0, 0)]) (hs2 := jpA_607) (jA_252_536 (d := 0) (by omega) (by omega) (by omega)) (by rfl) (by rfl) (by decide +kernel) (by rfl) (by rfl) (by omega) (by omega) (by omega) (by omega) rfl (by decide +kernel) ?_
  refine jT_xistore (v := (0, 0)) (LN := [(7, (0, 0)), (6, (0, 2)), (5, (0, 0)), (4, (4, 3)), (3, (4, 2)), (2, (4, 1)), (1, (4, 0)), (0, (6, 0))]) (pcN := 1363) jI_379_1361 rfl rfl rfl rfl ?_
  refine jT_xaload_n (v := (4, 1)) (pcN := 1364) jI_379_1363 rfl rfl rfl ?_
  refine jT_fR [1, 15, 16, 17, 18, 19, 20, 21, 22, 23, 24, 25, 26, 27, 28, 29] 30 (y := 186) (pcN := 1367) (dC := 0) (bc1 := 0) (bc2 := 0) (c1 := 0) (c2 := 0) (as := [(4, 1)]) (asC := [(4, 0)]) (LN := [(7, (0, 0)), (6, (0, 2)), (5, (0, 0)), (4, (4, 3)), (3, (4, 2)), (2, (4, 1)), (1, (4, 0)), (0, (6, 0))]) (stN := []) (hsC := jpA_361) (v := (0, 2)) (st2 := [(0, 2)]) (jA_186_101 (d := 0)) (by rfl) (by rfl) (by decide +kernel) (by rfl) (by rfl) (by omega) (by omega) (by omega) (by omega) rfl ?_
  refine jT_xiload (v := (0, 2)) (pcN := 1369) jI_379_1367 rfl rfl rfl ?_
  refine jT_xicT (pcN := 1374) jI_379_1369 rfl (by decide +kernel) rfl ?_
  refine jT_xiload (v := (0, 2)) (pcN := 1376) jI_379_1374 rfl rfl rfl ?_
  refine jT_xifT (pcN := 1391) jI_379_1376 rfl (by decide +kernel) rfl ?_
  refine jT_xgoto (pcN := 3740) jI_379_1391 rfl ?_
  refine jT_xiinc (x := 0) (z := 5) (LN := [(5, (0, 5)), (7, (0, 0)), (6, (0, 2)), (4, (4, 3)), (3, (4, 2)), (2, (4, 1)), (1, (4, 0)), (0, (6, 0))]) (pcN := 3743) jI_379_3740 rfl rfl (by decide) rfl rfl ?_
  refine jT_xgoto (pcN := 28) jI_379_3743 rfl ?_
  refine jT_xiload (v := (0, 5)) (pcN := 30) jI_379_28 rfl rfl rfl ?_
  refine jT_xaload_n (v := (6, 0)) (pcN := 31) jI_379_30 rfl rfl rfl ?_
  refine jT_adv 1 (pcN := 32) (LN := [(5, (0, 5)), (7, (0, 0)), (6, (0, 2)), (4, (4, 3)), (3, (4, 2)), (2, (4, 1)), (1, (4, 0)), (0, (6, 0))]) (stN := [(0, 5), (0, 5)]) (hsN := jpA_607) (c1 := 0) (s1 := 0) (c2 := 0) (s2 := 0) (by exact rfl) ?_ (by omega) (by omega)
  refine jT_xiconst (k := 5) (pcN := 33) jI_379_32 rfl ?_
  refine jT_xisub (x := 5) (y := 5) (z := 0) (pcN := 34) jI_379_33 rfl (by decide) rfl ?_
  refine jT_xicT (pcN := 3746) jI_379_34 rfl (by decide +kernel) rfl ?_
  refine jT_xiconst (k := 1) (pcN := 3747) jI_379_3746 rfl ?_
  exact jT_ret rfl (by decide) (by show 30 ≤ 30; decide) (by omega) (by omega) ⟨rfl, rfl⟩
def jpA_2336 : List JC := [jzA_265, jzA_266, (101, [], [0]), jgh, jgh, jgh, jgh, jgh, jgh, jgh, jgh, jgh, jgh, jzA_79, jzA_322, (100, [], jS0), (100, [], []), jzA_323, jzA_197, jgh, jgh, (101, [], [0, 0, 0, 0, 0, 0]), jgh, jgh, jgh, jgh, jgh, jgh, jgh, jgh, jzA_324, (117, [], [44, 45, 46, 47]), jgh, jgh, jgh, (100, [], (List.replicate 1613 0)), jgh, jgh, jgh, jgh, jgh, jgh, jgh, (4, [(4, 48), (1, 1)], []), (7, [(4, 49), (4, (-1)), (4, (-1))], []), jgh, jgh, jgh, (101, [], [0, 0, 0, 0, 0, 0]), (114, [], [43])]
def jzA_2337 : JC := (13, [(4, 4), (4, 5), (4, 6), (4, 7), (4, 8), (4, 9), (4, 10), (4, 11), (4, 12), (4, 13), (0, 1), (4, 53), (0, 0)], [])
def jzA_2338 : JC := (9, [(4, 52), (4, 31), (4, 32), (4, 33), (4, 34)], [])
theorem jI_379_1379 : jmI (jm 379) 1379 = (.aload_n 3, 1) := by rfl
theorem jI_379_1380 : jmI (jm 379) 1380 = (.iconst 0, 1) := by rfl
theorem jI_379_1381 : jmI (jm 379) 1381 = (.laload, 1) := by rfl
theorem jI_379_1382 : jmI (jm 379) 1382 = (.iload 7, 2) := by rfl
theorem jI_379_1384 : jmI (jm 379) 1384 = (.i2l, 1) := by rfl
theorem jI_379_1386 : jmI (jm 379) 1386 = (.ifCond .eq 5, 3) := by rfl
set_option maxRecDepth 100000 in
theorem jL_13_3 {d : Nat} {x0 x1 x2 x3 x4 : Int} (h_x0 : (-2147483648) ≤ x0 ∧ x0 ≤ 2147483647) (h_x1 : 0 ≤ x1 ∧ x1 ≤ 0) (h_x2 : (-200) ≤ x2 ∧ x2 ≤ (-1)) (h_x3 : 0 ≤ x3 ∧ x3 ≤ 7) (h_x4 : (-2147483648) ≤ x4 ∧ x4 ≤ 2147483647) : jT [x0, x1, x2, x3, x4] (d + 5) 379 50 1314 [(5, (0, 0)), (4, (4, 3)), (3, (4, 2)), (2, (4, 1)), (1, (4, 0)), (0, (6, 0))] [] jpA_2336 4 21 (fun k v hsN => k = 0 ∧ v = (0, 1)) := by
  refine jT_xaload_n (v := (4, 0)) (pcN := 1315) jI_379_1314 rfl rfl rfl ?_
  refine jT_xaload_n (v := (6, 0)) (pcN := 1316) jI_379_1315 rfl rfl rfl ?_
  refine jT_xiload (v := (0, 0)) (pcN := 1318) jI_379_1316 rfl rfl rfl ?_
  refine jT_xiconst (k := 1) (pcN := 1319) jI_379_1318 rfl ?_
  refine jT_xiadd (x := 0) (y := 1) (z := 1) (pcN := 1320) jI_379_1319 rfl (by decide) rfl ?_
  refine jT_adv 1 (pcN := 1321) (LN := [(5, (0, 0)), (4, (4, 3)), (3, (4, 2)), (2, (4, 1)), (1, (4, 0)), (0, (6, 0))]) (stN := [(0, x1), (4, 0)]) (hsN := jpA_2336) (c1 := 0) (s1 := 0) (c2 := 4) (s2 := 21) (by exact rfl) ?_ (by omega) (by omega)
  refine jT_eq (LN := [(5, (0, 0)), (4, (4, 3)), (3, (4, 2)), (2, (4, 1)), (1, (4, 0)), (0, (6, 0))]) (stN := [(0, 0), (4, 0)]) (hsN := [jzA_265, jzA_266, (101, [], [0]), jgh, jgh, jgh, jgh, jgh, jgh, jgh, jgh, jgh, jgh, jzA_79, jzA_322, (100, [], jS0), (100, [], []), jzA_323, jzA_197, jgh, jgh, (101, [], [0, 0, 0, 0, 0, 0]), jgh, jgh, jgh, jgh, jgh, jgh, jgh, jgh, jzA_324, (117, [], [44, 45, 46, 47]), jgh, jgh, jgh, (100, [], (List.replicate 1613 0)), jgh, jgh, jgh, jgh, jgh, jgh, jgh, (4, [(4, 48), (1, 1)], []), (7, [(4, 49), (4, (-1)), (4, (-1))], []), jgh, jgh, jgh, (101, [], [0, 0, 0, 0, 0, 0]), (114, [], [43])]) (rfl) (by simp only [List.cons.injEq, Prod.mk.injEq, and_true, true_and] <;> ((try unfold jw); (try unfold jwl); omega)) (rfl) ?_
  refine jT_xaload_n (v := (6, 0)) (pcN := 1322) jI_379_1321 rfl rfl rfl ?_
  refine jT_xiload (v := (0, 0)) (pcN := 1324) jI_379_1322 rfl rfl rfl ?_
  refine jT_xiconst (k := 2) (pcN := 1325) jI_379_1324 rfl ?_
  refine jT_xiadd (x := 0) (y := 2) (z := 2) (pcN := 1326) jI_379_1325 rfl (by decide) rfl ?_
  refine jT_adv 1 (pcN := 1327) (LN := [(5, (0, 0)), (4, (4, 3)), (3, (4, 2)), (2, (4, 1)), (1, (4, 0)), (0, (6, 0))]) (stN := [(0, x2), (0, 0), (4, 0)]) (hsN := jpA_2336) (c1 := 0) (s1 := 0) (c2 := 4) (s2 := 21) (by exact rfl) ?_ (by omega) (by omega)
  refine jT_xaload_n (v := (6, 0)) (pcN := 1328) jI_379_1327 rfl rfl rfl ?_
  refine jT_xiload (v := (0, 0)) (pcN := 1330) jI_379_1328 rfl rfl rfl ?_
  refine jT_xiconst (k := 3) (pcN := 1331) jI_379_1330 rfl ?_
  refine jT_xiadd (x := 0) (y := 3) (z := 3) (pcN := 1332) jI_379_1331 rfl (by decide) rfl ?_
  refine jT_adv 1 (pcN := 1333) (LN := [(5, (0, 0)), (4, (4, 3)), (3, (4, 2)), (2, (4, 1)), (1, (4, 0)), (0, (6, 0))]) (stN := [(0, x3), (0, x2), (0, 0), (4, 0)]) (hsN := jpA_2336) (c1 := 0) (s1 := 0) (c2 := 4) (s2 := 21) (by exact rfl) ?_ (by omega) (by omega)
  refine jT_xaload_n (v := (4, 2)) (pcN := 1334) jI_379_1333 rfl rfl rfl ?_
  refine jT_fB [0, 2, 4, 5, 6, 7, 8, 9, 10, 11, 12, 13, 14, 30, 31, 32, 33, 34, 43, 44, 45, 46, 47, 48, 49] 50 (y := 339) (pcN := 1337) (dC := 4) (bc1 := 4) (bc2 := 21) (c1 := 0) (c2 := 0) (as := [(4, 0), (0, 0), (0, x2), (0, x3), (4, 2)]) (asC := [(4, 0), (0, 0), (0, x2), (0, x3), (4, 1)]) (LN := [(5, (0, 0)), (4, (4, 3)), (3, (4, 2)), (2, (4, 1)), (1, (4, 0)), (0, (6, 0))]) (stN := []) (hsC := jpA_2225) (hsD := [jzA_2220, (101, [], [0]), jgh, jgh, jgh, jgh, jgh, jgh, jgh, jgh, jgh, jzA_76, jzA_77, jzA_109, (117, [], [19, 20, 21, 22]), jgh, jgh, jgh, (4, [(4, 23), (1, 1)], []), (7, [(4, 24), (4, (-1)), (4, (-1))], []), jgh, jgh, jgh, (101, [], [0, 0, 0, 0, 0, 0]), (114, [], [18]), (101, [], [x2, 0, 0, 0, 0, 0]), (4, [(4, 25), (1, 1)], []), jgh, jzA_2221]) (v := (0, 0)) (st2 := [(0, 0)]) (hs2 := [jzA_2337, jzA_266, (101, [], [0]), jgh, jgh, jgh, jgh, jgh, jgh, jgh, jgh, jgh, jgh, jzA_327, jzA_322, (100, [], jS0), (100, [], []), jzA_323, jzA_197, jgh, jgh, (101, [], [0, 0, 0, 0, 0, 0]), jgh, jgh, jgh, jgh, jgh, jgh, jgh, jgh, jzA_324, (117, [], [44, 45, 46, 47]), jgh, jgh, jgh, (100, [], (List.replicate 1613 0)), jgh, jgh, jgh, jgh, jgh, jgh, jgh, (4, [(4, 48), (1, 1)], []), (7, [(4, 49), (4, (-1)), (4, (-1))], []), jgh, jgh, jgh, (101, [], [0, 0, 0, 0, 0, 0]), (114, [], [43]), (101, [], [x2, 0, 0, 0, 0, 0]), (4, [(4, 50), (1, 1)], []), jgh, jzA_2338]) (jA_339_550 (d := 0) (by omega) (by omega)) (by rfl) (by rfl) (by decide +kernel) (by rfl) (by rfl) (by omega) (by omega) (by omega) (by omega) rfl rfl ?_
  refine jT_xistore (v := (0, 0)) (LN := [(6, (0, 0)), (5, (0, 0)), (4, (4, 3)), (3, (4, 2)), (2, (4, 1)), (1, (4, 0)), (0, (6, 0))]) (pcN := 1339) jI_379_1337 rfl rfl rfl rfl ?_
  refine jT_xaload_n (v := (4, 1)) (pcN := 1340) jI_379_1339 rfl rfl rfl ?_
  refine jT_xaload_n (v := (6, 0)) (pcN := 1341) jI_379_1340 rfl rfl rfl ?_
  refine jT_xiload (v := (0, 0)) (pcN := 1343) jI_379_1341 rfl rfl rfl ?_
  refine jT_xiconst (k := 1) (pcN := 1344) jI_379_1343 rfl ?_
  refine jT_xiadd (x := 0) (y := 1) (z := 1) (pcN := 1345) jI_379_1344 rfl (by decide) rfl ?_
  refine jT_adv 1 (pcN := 1346) (LN := [(6, (0, 0)), (5, (0, 0)), (4, (4, 3)), (3, (4, 2)), (2, (4, 1)), (1, (4, 0)), (0, (6, 0))]) (stN := [(0, x1), (4, 1)]) (hsN := [jzA_2337, jzA_266, (101, [], [0]), jgh, jgh, jgh, jgh, jgh, jgh, jgh, jgh, jgh, jgh, jzA_327, jzA_322, (100, [], jS0), (100, [], []), jzA_323, jzA_197, jgh, jgh, (101, [], [0, 0, 0, 0, 0, 0]), jgh, jgh, jgh, jgh, jgh, jgh, jgh, jgh, jzA_324, (117, [], [44, 45, 46, 47]), jgh, jgh, jgh, (100, [], (List.replicate 1613 0)), jgh, jgh, jgh, jgh, jgh, jgh, jgh, (4, [(4, 48), (1, 1)], []), (7, [(4, 49), (4, (-1)), (4, (-1))], []), jgh, jgh, jgh, (101, [], [0, 0, 0, 0, 0, 0]), (114, [], [43]), (101, [], [x2, 0, 0, 0, 0, 0]), (4, [(4, 50), (1, 1)], []), jgh, jzA_2338]) (c1 := 0) (s1 := 0) (c2 := 0) (s2 := 0) (by exact rfl) ?_ (by omega) (by omega)
  refine jT_eq (LN := [(6, (0, 0)), (5, (0, 0)), (4, (4, 3)), (3, (4, 2)), (2, (4, 1)), (1, (4, 0)), (0, (6, 0))]) (stN := [(0, 0), (4, 1)]) (hsN := [jzA_2337, jzA_266, (101, [], [0]), jgh, jgh, jgh, jgh, jgh, jgh, jgh, jgh, jgh, jgh, jzA_327, jzA_322, (100, [], jS0), (100, [], []), jzA_323, jzA_197, jgh, jgh, (101, [], [0, 0, 0, 0, 0, 0]), jgh, jgh, jgh, jgh, jgh, jgh, jgh, jgh, jzA_324, (117, [], [44, 45, 46, 47]), jgh, jgh, jgh, (100, [], (List.replicate 1613 0)), jgh, jgh, jgh, jgh, jgh, jgh, jgh, (4, [(4, 48), (1, 1)], []), (7, [(4, 49), (4, (-1)), (4, (-1))], []), jgh, jgh, jgh, (101, [], [0, 0, 0, 0, 0, 0]), (114, [], [43]), (101, [], [x2, 0, 0, 0, 0, 0]), (4, [(4, 50), (1, 1)], []), jgh, jzA_2338]) (rfl) (by simp only [List.cons.injEq, Prod.mk.injEq, and_true, true_and] <;> ((try unfold jw); (try unfold jwl); omega)) (rfl) ?_
  refine jT_xaload_n (v := (6, 0)) (pcN := 1347) jI_379_1346 rfl rfl rfl ?_
  refine jT_xiload (v := (0, 0)) (pcN := 1349) jI_379_1347 rfl rfl rfl ?_
  refine jT_xiconst (k := 2) (pcN := 1350) jI_379_1349 rfl ?_
  refine jT_xiadd (x := 0) (y := 2) (z := 2) (pcN := 1351) jI_379_1350 rfl (by decide) rfl ?_
  refine jT_adv 1 (pcN := 1352) (LN := [(6, (0, 0)), (5, (0, 0)), (4, (4, 3)), (3, (4, 2)), (2, (4, 1)), (1, (4, 0)), (0, (6, 0))]) (stN := [(0, x2), (0, 0), (4, 1)]) (hsN := [jzA_2337, jzA_266, (101, [], [0]), jgh, jgh, jgh, jgh, jgh, jgh, jgh, jgh, jgh, jgh, jzA_327, jzA_322, (100, [], jS0), (100, [], []), jzA_323, jzA_197, jgh, jgh, (101, [], [0, 0, 0, 0, 0, 0]), jgh, jgh, jgh, jgh, jgh, jgh, jgh, jgh, jzA_324, (117, [], [44, 45, 46, 47]), jgh, jgh, jgh, (100, [], (List.replicate 1613 0)), jgh, jgh, jgh, jgh, jgh, jgh, jgh, (4, [(4, 48), (1, 1)], []), (7, [(4, 49), (4, (-1)), (4, (-1))], []), jgh, jgh, jgh, (101, [], [0, 0, 0, 0, 0, 0]), (114, [], [43]), (101, [], [x2, 0, 0, 0, 0, 0]), (4, [(4, 50), (1, 1)], []), jgh, jzA_2338]) (c1 := 0) (s1 := 0) (c2 := 0) (s2 := 0) (by exact rfl) ?_ (by omega) (by omega)
  refine jT_xaload_n (v := (6, 0)) (pcN := 1353) jI_379_1352 rfl rfl rfl ?_
  refine jT_xiload (v := (0, 0)) (pcN := 1355) jI_379_1353 rfl rfl rfl ?_
  refine jT_xiconst (k := 3) (pcN := 1356) jI_379_1355 rfl ?_
  refine jT_xiadd (x := 0) (y := 3) (z := 3) (pcN := 1357) jI_379_1356 rfl (by decide) rfl ?_
  refine jT_adv 1 (pcN := 1358) (LN := [(6, (0, 0)), (5, (0, 0)), (4, (4, 3)), (3, (4, 2)), (2, (4, 1)), (1, (4, 0)), (0, (6, 0))]) (stN := [(0, x3), (0, x2), (0, 0), (4, 1)]) (hsN := [jzA_2337, jzA_266, (101, [], [0]), jgh, jgh, jgh, jgh, jgh, jgh, jgh, jgh, jgh, jgh, jzA_327, jzA_322, (100, [], jS0), (100, [], []), jzA_323, jzA_197, jgh, jgh, (101, [], [0, 0, 0, 0, 0, 0]), jgh, jgh, jgh, jgh, jgh, jgh, jgh, jgh, jzA_324, (117, [], [44, 45, 46, 47]), jgh, jgh, jgh, (100, [], (List.replicate 1613 0)), jgh, jgh, jgh, jgh, jgh, jgh, jgh, (4, [(4, 48), (1, 1)], []), (7, [(4, 49), (4, (-1)), (4, (-1))], []), jgh, jgh, jgh, (101, [], [0, 0, 0, 0, 0, 0]), (114, [], [43]), (101, [], [x2, 0, 0, 0, 0, 0]), (4, [(4, 50), (1, 1)], []), jgh, jzA_2338]) (c1 := 0) (s1 := 0) (c2 := 0) (s2 := 0) (by exact rfl) ?_ (by omega) (by omega)
  refine jT_callB [1, 15, 16, 17, 18, 19, 20, 21, 22, 23, 24, 25, 26, 27, 28, 29, 35, 36, 37, 38, 39, 40, 41, 42] (y := 252) (pcN := 1361) (dC := 2) (bc1 := 0) (bc2 := 0) (c1 := 0) (c2 := 0) (as := [(4, 1), (0, 0), (0, x2), (0, x3)]) (asC := [(4, 0), (0, 0), (0, x2), (0, x3)]) (LN := [(6, (0, 0)), (5, (0, 0)), (4, (4, 3)), (3, (4, 2)), (2, (4, 1)), (1, (4, 0)), (0, (6, 0))]) (stN := []) (hsC := jpA_248) (hsD := [jzA_200, (100, [], ((((((((((((((jS0).set ((7 * x3).toNat) x2)).set ((7 * x3 + 1).toNat) 0)).set ((7 * x3 + 2).toNat) 0)).set ((7 * x3 + 3).toNat) 0)).set ((7 * x3 + 4).toNat) 0)).set ((7 * x3 + 5).toNat) 0)).set ((7 * x3 + 6).toNat) 1)), (100, [], []), jzA_196, jzA_201, jgh, jgh, (101, [], [x2, 0, 0, 0, 0, 0]), jgh, jgh, jgh, jgh, jgh, jgh, jgh, jgh, (100, [], jS0), jgh, jgh, jgh, jgh, jgh, jgh, jgh]) (v := (0, 0)) (st2 := [(0, 0)]) (hs2 := [jzA_2337, jzA_330, (101, [], [0]), jgh, jgh, jgh, jgh, jgh, jgh, jgh, jgh, jgh, jgh, jzA_327, jzA_322, (100, [], ((((((((((((((jS0).set ((7 * x3).toNat) x2)).set ((7 * x3 + 1).toNat) 0)).set ((7 * x3 + 2).toNat) 0)).set ((7 * x3 + 3).toNat) 0)).set ((7 * x3 + 4).toNat) 0)).set ((7 * x3 + 5).toNat) 0)).set ((7 * x3 + 6).toNat) 1)), (100, [], []), jzA_323, jzA_331, jgh, jgh, (101, [], [x2, 0, 0, 0, 0, 0]), jgh, jgh, jgh, jgh, jgh, jgh, jgh, jgh, jzA_324, (117, [], [44, 45, 46, 47]), jgh, jgh, jgh, (100, [], jS0), jgh, jgh, jgh, jgh, jgh, jgh, jgh, (4, [(4, 48), (1, 1)], []), (7, [(4, 49), (4, (-1)), (4, (-1))], []), jgh, jgh, jgh, (101, [], [0, 0, 0, 0, 0, 0]), (114, [], [43]), (101, [], [x2, 0, 0, 0, 0, 0]), (4, [(4, 50), (1, 1)], []), jgh, jzA_2338]) (jA_252_554 (d := 0) (by omega) (by omega)) (by rfl) (by rfl) (by rfl) (by rfl) ⟨rfl, rfl, rfl, rfl, rfl, rfl, rfl, rfl, rfl, rfl, rfl, rfl, rfl, rfl, rfl, rfl, rfl, rfl, rfl, rfl, rfl, rfl, rfl, rfl, trivial⟩ (by rfl) (by rfl) (by omega) (by show 50 ≤ 54; omega) (by omega) (by omega) rfl rfl ?_
  refine jT_xistore (v := (0, 0)) (LN := [(7, (0, 0)), (6, (0, 0)), (5, (0, 0)), (4, (4, 3)), (3, (4, 2)), (2, (4, 1)), (1, (4, 0)), (0, (6, 0))]) (pcN := 1363) jI_379_1361 rfl rfl rfl rfl ?_
  refine jT_xaload_n (v := (4, 1)) (pcN := 1364) jI_379_1363 rfl rfl rfl ?_
  refine jT_callA [1, 15, 16, 17, 18, 19, 20, 21, 22, 23, 24, 25, 26, 27, 28, 29] (y := 186) (pcN := 1367) (dC := 0) (bc1 := 0) (bc2 := 0) (c1 := 0) (c2 := 0) (as := [(4, 1)]) (asC := [(4, 0)]) (LN := [(7, (0, 0)), (6, (0, 0)), (5, (0, 0)), (4, (4, 3)), (3, (4, 2)), (2, (4, 1)), (1, (4, 0)), (0, (6, 0))]) (stN := []) (hsC := jpA_258) (ex := []) (v := (0, 0)) (st2 := [(0, 0)]) (hs2 := [jzA_2337, jzA_330, (101, [], [0]), jgh, jgh, jgh, jgh, jgh, jgh, jgh, jgh, jgh, jgh, jzA_327, jzA_322, (100, [], ((((((((((((((jS0).set ((7 * x3).toNat) x2)).set ((7 * x3 + 1).toNat) 0)).set ((7 * x3 + 2).toNat) 0)).set ((7 * x3 + 3).toNat) 0)).set ((7 * x3 + 4).toNat) 0)).set ((7 * x3 + 5).toNat) 0)).set ((7 * x3 + 6).toNat) 1)), (100, [], []), jzA_323, jzA_331, jgh, jgh, (101, [], [x2, 0, 0, 0, 0, 0]), jgh, jgh, jgh, jgh, jgh, jgh, jgh, jgh, jzA_324, (117, [], [44, 45, 46, 47]), jgh, jgh, jgh, (100, [], jS0), jgh, jgh, jgh, jgh, jgh, jgh, jgh, (4, [(4, 48), (1, 1)], []), (7, [(4, 49), (4, (-1)), (4, (-1))], []), jgh, jgh, jgh, (101, [], [0, 0, 0, 0, 0, 0]), (114, [], [43]), (101, [], [x2, 0, 0, 0, 0, 0]), (4, [(4, 50), (1, 1)], []), jgh, jzA_2338]) (jA_186_54 (d := 0)) (by rfl) (by rfl) (by rfl) (by rfl) ⟨rfl, rfl, rfl, rfl, rfl, rfl, rfl, rfl, rfl, rfl, rfl, rfl, rfl, rfl, rfl, rfl, trivial⟩ (by rfl) (by rfl) (by omega) (by show 50 ≤ 54; omega) (by omega) (by omega) rfl rfl ?_
  refine jT_xiload (v := (0, 0)) (pcN := 1369) jI_379_1367 rfl rfl rfl ?_
  refine jT_xicT (pcN := 1374) jI_379_1369 rfl (by decide +kernel) rfl ?_
  refine jT_xiload (v := (0, 0)) (pcN := 1376) jI_379_1374 rfl rfl rfl ?_
  refine jT_xifF (t := 1391) (pcN := 1379) jI_379_1376 rfl (by decide +kernel) rfl rfl ?_
  refine jT_xaload_n (v := (4, 2)) (pcN := 1380) jI_379_1379 rfl rfl rfl ?_
  refine jT_xiconst (k := 0) (pcN := 1381) jI_379_1380 rfl ?_
  refine jT_lald (x := 0) (a := 2) (j := 0) (fs := []) (X := [0]) jI_379_1381 rfl rfl rfl rfl ?_
  refine jT_eq (LN := [(7, (0, 0)), (6, (0, 0)), (5, (0, 0)), (4, (4, 3)), (3, (4, 2)), (2, (4, 1)), (1, (4, 0)), (0, (6, 0))]) (stN := [(1, 0)]) (hsN := [jzA_2337, jzA_330, (101, [], [0]), jgh, jgh, jgh, jgh, jgh, jgh, jgh, jgh, jgh, jgh, jzA_327, jzA_322, (100, [], ((((((((((((((jS0).set ((7 * x3).toNat) x2)).set ((7 * x3 + 1).toNat) 0)).set ((7 * x3 + 2).toNat) 0)).set ((7 * x3 + 3).toNat) 0)).set ((7 * x3 + 4).toNat) 0)).set ((7 * x3 + 5).toNat) 0)).set ((7 * x3 + 6).toNat) 1)), (100, [], []), jzA_323, jzA_331, jgh, jgh, (101, [], [x2, 0, 0, 0, 0, 0]), jgh, jgh, jgh, jgh, jgh, jgh, jgh, jgh, jzA_324, (117, [], [44, 45, 46, 47]), jgh, jgh, jgh, (100, [], jS0), jgh, jgh, jgh, jgh, jgh, jgh, jgh, (4, [(4, 48), (1, 1)], []), (7, [(4, 49), (4, (-1)), (4, (-1))], []), jgh, jgh, jgh, (101, [], [0, 0, 0, 0, 0, 0]), (114, [], [43]), (101, [], [x2, 0, 0, 0, 0, 0]), (4, [(4, 50), (1, 1)], []), jgh, jzA_2338]) rfl rfl rfl ?_
  refine jT_xiload (v := (0, 0)) (pcN := 1384) jI_379_1382 rfl rfl rfl ?_
  refine jT_xi2l (x := 0) (z := 0) (pcN := 1385) jI_379_1384 rfl (by decide +kernel) rfl ?_
  refine jT_lcmp (a := 0) (b := 0) (z := 0) (by rfl) (by rfl) (by decide +kernel) (by decide +kernel) (by decide) ?_
  refine jT_xifT (pcN := 1391) jI_379_1386 rfl (by decide +kernel) rfl ?_
  refine jT_xgoto (pcN := 3740) jI_379_1391 rfl ?_
  refine jT_xiinc (x := 0) (z := 5) (LN := [(5, (0, 5)), (7, (0, 0)), (6, (0, 0)), (4, (4, 3)), (3, (4, 2)), (2, (4, 1)), (1, (4, 0)), (0, (6, 0))]) (pcN := 3743) jI_379_3740 rfl rfl (by decide) rfl rfl ?_
  refine jT_xgoto (pcN := 28) jI_379_3743 rfl ?_
  refine jT_xiload (v := (0, 5)) (pcN := 30) jI_379_28 rfl rfl rfl ?_
  refine jT_xaload_n (v := (6, 0)) (pcN := 31) jI_379_30 rfl rfl rfl ?_
  refine jT_adv 1 (pcN := 32) (LN := [(5, (0, 5)), (7, (0, 0)), (6, (0, 0)), (4, (4, 3)), (3, (4, 2)), (2, (4, 1)), (1, (4, 0)), (0, (6, 0))]) (stN := [(0, 5), (0, 5)]) (hsN := [jzA_2337, jzA_330, (101, [], [0]), jgh, jgh, jgh, jgh, jgh, jgh, jgh, jgh, jgh, jgh, jzA_327, jzA_322, (100, [], ((((((((((((((jS0).set ((7 * x3).toNat) x2)).set ((7 * x3 + 1).toNat) 0)).set ((7 * x3 + 2).toNat) 0)).set ((7 * x3 + 3).toNat) 0)).set ((7 * x3 + 4).toNat) 0)).set ((7 * x3 + 5).toNat) 0)).set ((7 * x3 + 6).toNat) 1)), (100, [], []), jzA_323, jzA_331, jgh, jgh, (101, [], [x2, 0, 0, 0, 0, 0]), jgh, jgh, jgh, jgh, jgh, jgh, jgh, jgh, jzA_324, (117, [], [44, 45, 46, 47]), jgh, jgh, jgh, (100, [], jS0), jgh, jgh, jgh, jgh, jgh, jgh, jgh, (4, [(4, 48), (1, 1)], []), (7, [(4, 49), (4, (-1)), (4, (-1))], []), jgh, jgh, jgh, (101, [], [0, 0, 0, 0, 0, 0]), (114, [], [43]), (101, [], [x2, 0, 0, 0, 0, 0]), (4, [(4, 50), (1, 1)], []), jgh, jzA_2338]) (c1 := 0) (s1 := 0) (c2 := 0) (s2 := 0) (by exact rfl) ?_ (by omega) (by omega)
  refine jT_xiconst (k := 5) (pcN := 33) jI_379_32 rfl ?_
  refine jT_xisub (x := 5) (y := 5) (z := 0) (pcN := 34) jI_379_33 rfl (by decide) rfl ?_
  refine jT_xicT (pcN := 3746) jI_379_34 rfl (by decide +kernel) rfl ?_
  refine jT_xiconst (k := 1) (pcN := 3747) jI_379_3746 rfl ?_
  exact jT_ret rfl (by decide) (by show 50 ≤ 54; decide) (by omega) (by omega) ⟨rfl, rfl⟩
def jpA_2345 : List JC := [jzA_2337, jzA_266, (101, [], [0]), jgh, jgh, jgh, jgh, jgh, jgh, jgh, jgh, jgh, jgh, jzA_327, jzA_322, (100, [], jS0), (100, [], []), jzA_323, jzA_197, jgh, jgh, (101, [], [0, 0, 0, 0, 0, 0]), jgh, jgh, jgh, jgh, jgh, jgh, jgh, jgh, jzA_324, (117, [], [44, 45, 46, 47]), jgh, jgh, jgh, (100, [], (List.replicate 1613 0)), jgh, jgh, jgh, jgh, jgh, jgh, jgh, (4, [(4, 48), (1, 1)], []), (7, [(4, 49), (4, (-1)), (4, (-1))], []), jgh, jgh, jgh, (101, [], [0, 0, 0, 0, 0, 0]), (114, [], [43]), (101, [], [0, 0, 0, 0, 0, 0]), (4, [(4, 50), (1, 1)], []), jgh, jzA_2338]
set_option maxRecDepth 100000 in
theorem jL_13_4 {d : Nat} {x0 x1 x2 x3 x4 : Int} (h_x0 : (-2147483648) ≤ x0 ∧ x0 ≤ 2147483647) (h_x1 : 0 ≤ x1 ∧ x1 ≤ 0) (h_x2 : 0 ≤ x2 ∧ x2 ≤ 0) (h_x3 : 0 ≤ x3 ∧ x3 ≤ 7) (h_x4 : (-2147483648) ≤ x4 ∧ x4 ≤ 2147483647) : jT [x0, x1, x2, x3, x4] (d + 5) 379 50 1314 [(5, (0, 0)), (4, (4, 3)), (3, (4, 2)), (2, (4, 1)), (1, (4, 0)), (0, (6, 0))] [] jpA_2336 4 21 (fun k v hsN => k = 0 ∧ v = (0, 1)) := by
  refine jT_xaload_n (v := (4, 0)) (pcN := 1315) jI_379_1314 rfl rfl rfl ?_
  refine jT_xaload_n (v := (6, 0)) (pcN := 1316) jI_379_1315 rfl rfl rfl ?_
  refine jT_xiload (v := (0, 0)) (pcN := 1318) jI_379_1316 rfl rfl rfl ?_
  refine jT_xiconst (k := 1) (pcN := 1319) jI_379_1318 rfl ?_
  refine jT_xiadd (x := 0) (y := 1) (z := 1) (pcN := 1320) jI_379_1319 rfl (by decide) rfl ?_
  refine jT_adv 1 (pcN := 1321) (LN := [(5, (0, 0)), (4, (4, 3)), (3, (4, 2)), (2, (4, 1)), (1, (4, 0)), (0, (6, 0))]) (stN := [(0, x1), (4, 0)]) (hsN := jpA_2336) (c1 := 0) (s1 := 0) (c2 := 4) (s2 := 21) (by exact rfl) ?_ (by omega) (by omega)
  refine jT_eq (LN := [(5, (0, 0)), (4, (4, 3)), (3, (4, 2)), (2, (4, 1)), (1, (4, 0)), (0, (6, 0))]) (stN := [(0, 0), (4, 0)]) (hsN := [jzA_265, jzA_266, (101, [], [0]), jgh, jgh, jgh, jgh, jgh, jgh, jgh, jgh, jgh, jgh, jzA_79, jzA_322, (100, [], jS0), (100, [], []), jzA_323, jzA_197, jgh, jgh, (101, [], [0, 0, 0, 0, 0, 0]), jgh, jgh, jgh, jgh, jgh, jgh, jgh, jgh, jzA_324, (117, [], [44, 45, 46, 47]), jgh, jgh, jgh, (100, [], (List.replicate 1613 0)), jgh, jgh, jgh, jgh, jgh, jgh, jgh, (4, [(4, 48), (1, 1)], []), (7, [(4, 49), (4, (-1)), (4, (-1))], []), jgh, jgh, jgh, (101, [], [0, 0, 0, 0, 0, 0]), (114, [], [43])]) (rfl) (by simp only [List.cons.injEq, Prod.mk.injEq, and_true, true_and] <;> ((try unfold jw); (try unfold jwl); omega)) (rfl) ?_
  refine jT_xaload_n (v := (6, 0)) (pcN := 1322) jI_379_1321 rfl rfl rfl ?_
  refine jT_xiload (v := (0, 0)) (pcN := 1324) jI_379_1322 rfl rfl rfl ?_
  refine jT_xiconst (k := 2) (pcN := 1325) jI_379_1324 rfl ?_
  refine jT_xiadd (x := 0) (y := 2) (z := 2) (pcN := 1326) jI_379_1325 rfl (by decide) rfl ?_
  refine jT_adv 1 (pcN := 1327) (LN := [(5, (0, 0)), (4, (4, 3)), (3, (4, 2)), (2, (4, 1)), (1, (4, 0)), (0, (6, 0))]) (stN := [(0, x2), (0, 0), (4, 0)]) (hsN := jpA_2336) (c1 := 0) (s1 := 0) (c2 := 4) (s2 := 21) (by exact rfl) ?_ (by omega) (by omega)
  refine jT_eq (LN := [(5, (0, 0)), (4, (4, 3)), (3, (4, 2)), (2, (4, 1)), (1, (4, 0)), (0, (6, 0))]) (stN := [(0, 0), (0, 0), (4, 0)]) (hsN := [jzA_265, jzA_266, (101, [], [0]), jgh, jgh, jgh, jgh, jgh, jgh, jgh, jgh, jgh, jgh, jzA_79, jzA_322, (100, [], jS0), (100, [], []), jzA_323, jzA_197, jgh, jgh, (101, [], [0, 0, 0, 0, 0, 0]), jgh, jgh, jgh, jgh, jgh, jgh, jgh, jgh, jzA_324, (117, [], [44, 45, 46, 47]), jgh, jgh, jgh, (100, [], (List.replicate 1613 0)), jgh, jgh, jgh, jgh, jgh, jgh, jgh, (4, [(4, 48), (1, 1)], []), (7, [(4, 49), (4, (-1)), (4, (-1))], []), jgh, jgh, jgh, (101, [], [0, 0, 0, 0, 0, 0]), (114, [], [43])]) (rfl) (by simp only [List.cons.injEq, Prod.mk.injEq, and_true, true_and] <;> ((try unfold jw); (try unfold jwl); omega)) (rfl) ?_
  refine jT_xaload_n (v := (6, 0)) (pcN := 1328) jI_379_1327 rfl rfl rfl ?_
  refine jT_xiload (v := (0, 0)) (pcN := 1330) jI_379_1328 rfl rfl rfl ?_
  refine jT_xiconst (k := 3) (pcN := 1331) jI_379_1330 rfl ?_
  refine jT_xiadd (x := 0) (y := 3) (z := 3) (pcN := 1332) jI_379_1331 rfl (by decide) rfl ?_
  refine jT_adv 1 (pcN := 1333) (LN := [(5, (0, 0)), (4, (4, 3)), (3, (4, 2)), (2, (4, 1)), (1, (4, 0)), (0, (6, 0))]) (stN := [(0, x3), (0, 0), (0, 0), (4, 0)]) (hsN := jpA_2336) (c1 := 0) (s1 := 0) (c2 := 4) (s2 := 21) (by exact rfl) ?_ (by omega) (by omega)
  refine jT_xaload_n (v := (4, 2)) (pcN := 1334) jI_379_1333 rfl rfl rfl ?_
  refine jT_fB [0, 2, 4, 5, 6, 7, 8, 9, 10, 11, 12, 13, 14, 30, 31, 32, 33, 34, 43, 44, 45, 46, 47, 48, 49] 50 (y := 339) (pcN := 1337) (dC := 4) (bc1 := 4) (bc2 := 21) (c1 := 0) (c2 := 0) (as := [(4, 0), (0, 0), (0, 0), (0, x3), (4, 2)]) (asC := [(4, 0), (0, 0), (0, 0), (0, x3), (4, 1)]) (LN := [(5, (0, 0)), (4, (4, 3)), (3, (4, 2)), (2, (4, 1)), (1, (4, 0)), (0, (6, 0))]) (stN := []) (hsC := jpA_2225) (hsD := jpA_2282) (v := (0, 0)) (st2 := [(0, 0)]) (hs2 := jpA_2345) (jA_339_563 (d := 0) (by omega)) (by rfl) (by rfl) (by decide +kernel) (by rfl) (by rfl) (by omega) (by omega) (by omega) (by omega) rfl (by decide +kernel) ?_
  refine jT_xistore (v := (0, 0)) (LN := [(6, (0, 0)), (5, (0, 0)), (4, (4, 3)), (3, (4, 2)), (2, (4, 1)), (1, (4, 0)), (0, (6, 0))]) (pcN := 1339) jI_379_1337 rfl rfl rfl rfl ?_
  refine jT_xaload_n (v := (4, 1)) (pcN := 1340) jI_379_1339 rfl rfl rfl ?_
  refine jT_xaload_n (v := (6, 0)) (pcN := 1341) jI_379_1340 rfl rfl rfl ?_
  refine jT_xiload (v := (0, 0)) (pcN := 1343) jI_379_1341 rfl rfl rfl ?_
  refine jT_xiconst (k := 1) (pcN := 1344) jI_379_1343 rfl ?_
  refine jT_xiadd (x := 0) (y := 1) (z := 1) (pcN := 1345) jI_379_1344 rfl (by decide) rfl ?_
  refine jT_adv 1 (pcN := 1346) (LN := [(6, (0, 0)), (5, (0, 0)), (4, (4, 3)), (3, (4, 2)), (2, (4, 1)), (1, (4, 0)), (0, (6, 0))]) (stN := [(0, x1), (4, 1)]) (hsN := jpA_2345) (c1 := 0) (s1 := 0) (c2 := 0) (s2 := 0) (by exact rfl) ?_ (by omega) (by omega)
  refine jT_eq (LN := [(6, (0, 0)), (5, (0, 0)), (4, (4, 3)), (3, (4, 2)), (2, (4, 1)), (1, (4, 0)), (0, (6, 0))]) (stN := [(0, 0), (4, 1)]) (hsN := [jzA_2337, jzA_266, (101, [], [0]), jgh, jgh, jgh, jgh, jgh, jgh, jgh, jgh, jgh, jgh, jzA_327, jzA_322, (100, [], jS0), (100, [], []), jzA_323, jzA_197, jgh, jgh, (101, [], [0, 0, 0, 0, 0, 0]), jgh, jgh, jgh, jgh, jgh, jgh, jgh, jgh, jzA_324, (117, [], [44, 45, 46, 47]), jgh, jgh, jgh, (100, [], (List.replicate 1613 0)), jgh, jgh, jgh, jgh, jgh, jgh, jgh, (4, [(4, 48), (1, 1)], []), (7, [(4, 49), (4, (-1)), (4, (-1))], []), jgh, jgh, jgh, (101, [], [0, 0, 0, 0, 0, 0]), (114, [], [43]), (101, [], [0, 0, 0, 0, 0, 0]), (4, [(4, 50), (1, 1)], []), jgh, jzA_2338]) (rfl) (by simp only [List.cons.injEq, Prod.mk.injEq, and_true, true_and] <;> ((try unfold jw); (try unfold jwl); omega)) (rfl) ?_
  refine jT_xaload_n (v := (6, 0)) (pcN := 1347) jI_379_1346 rfl rfl rfl ?_
  refine jT_xiload (v := (0, 0)) (pcN := 1349) jI_379_1347 rfl rfl rfl ?_
  refine jT_xiconst (k := 2) (pcN := 1350) jI_379_1349 rfl ?_
  refine jT_xiadd (x := 0) (y := 2) (z := 2) (pcN := 1351) jI_379_1350 rfl (by decide) rfl ?_
  refine jT_adv 1 (pcN := 1352) (LN := [(6, (0, 0)), (5, (0, 0)), (4, (4, 3)), (3, (4, 2)), (2, (4, 1)), (1, (4, 0)), (0, (6, 0))]) (stN := [(0, x2), (0, 0), (4, 1)]) (hsN := jpA_2345) (c1 := 0) (s1 := 0) (c2 := 0) (s2 := 0) (by exact rfl) ?_ (by omega) (by omega)
  refine jT_eq (LN := [(6, (0, 0)), (5, (0, 0)), (4, (4, 3)), (3, (4, 2)), (2, (4, 1)), (1, (4, 0)), (0, (6, 0))]) (stN := [(0, 0), (0, 0), (4, 1)]) (hsN := [jzA_2337, jzA_266, (101, [], [0]), jgh, jgh, jgh, jgh, jgh, jgh, jgh, jgh, jgh, jgh, jzA_327, jzA_322, (100, [], jS0), (100, [], []), jzA_323, jzA_197, jgh, jgh, (101, [], [0, 0, 0, 0, 0, 0]), jgh, jgh, jgh, jgh, jgh, jgh, jgh, jgh, jzA_324, (117, [], [44, 45, 46, 47]), jgh, jgh, jgh, (100, [], (List.replicate 1613 0)), jgh, jgh, jgh, jgh, jgh, jgh, jgh, (4, [(4, 48), (1, 1)], []), (7, [(4, 49), (4, (-1)), (4, (-1))], []), jgh, jgh, jgh, (101, [], [0, 0, 0, 0, 0, 0]), (114, [], [43]), (101, [], [0, 0, 0, 0, 0, 0]), (4, [(4, 50), (1, 1)], []), jgh, jzA_2338]) (rfl) (by simp only [List.cons.injEq, Prod.mk.injEq, and_true, true_and] <;> ((try unfold jw); (try unfold jwl); omega)) (rfl) ?_
  refine jT_xaload_n (v := (6, 0)) (pcN := 1353) jI_379_1352 rfl rfl rfl ?_
  refine jT_xiload (v := (0, 0)) (pcN := 1355) jI_379_1353 rfl rfl rfl ?_
  refine jT_xiconst (k := 3) (pcN := 1356) jI_379_1355 rfl ?_
  refine jT_xiadd (x := 0) (y := 3) (z := 3) (pcN := 1357) jI_379_1356 rfl (by decide) rfl ?_
  refine jT_adv 1 (pcN := 1358) (LN := [(6, (0, 0)), (5, (0, 0)), (4, (4, 3)), (3, (4, 2)), (2, (4, 1)), (1, (4, 0)), (0, (6, 0))]) (stN := [(0, x3), (0, 0), (0, 0), (4, 1)]) (hsN := jpA_2345) (c1 := 0) (s1 := 0) (c2 := 0) (s2 := 0) (by exact rfl) ?_ (by omega) (by omega)
  refine jT_fB [1, 15, 16, 17, 18, 19, 20, 21, 22, 23, 24, 25, 26, 27, 28, 29, 35, 36, 37, 38, 39, 40, 41, 42] 54 (y := 252) (pcN := 1361) (dC := 2) (bc1 := 0) (bc2 := 0) (c1 := 0) (c2 := 0) (as := [(4, 1), (0, 0), (0, 0), (0, x3)]) (asC := [(4, 0), (0, 0), (0, 0), (0, x3)]) (LN := [(6, (0, 0)), (5, (0, 0)), (4, (4, 3)), (3, (4, 2)), (2, (4, 1)), (1, (4, 0)), (0, (6, 0))]) (stN := []) (hsC := jpA_248) (hsD := [jzA_200, (100, [], ((((((((((((((jS0).set ((7 * x3).toNat) 0)).set ((7 * x3 + 1).toNat) 0)).set ((7 * x3 + 2).toNat) 0)).set ((7 * x3 + 3).toNat) 0)).set ((7 * x3 + 4).toNat) 0)).set ((7 * x3 + 5).toNat) 0)).set ((7 * x3 + 6).toNat) 1)), (100, [], []), jzA_196, jzA_201, jgh, jgh, (101, [], [0, 0, 0, 0, 0, 0]), jgh, jgh, jgh, jgh, jgh, jgh, jgh, jgh, (100, [], jS0), jgh, jgh, jgh, jgh, jgh, jgh, jgh]) (v := (0, 0)) (st2 := [(0, 0)]) (hs2 := [jzA_2337, jzA_330, (101, [], [0]), jgh, jgh, jgh, jgh, jgh, jgh, jgh, jgh, jgh, jgh, jzA_327, jzA_322, (100, [], ((((((((((((((jS0).set ((7 * x3).toNat) 0)).set ((7 * x3 + 1).toNat) 0)).set ((7 * x3 + 2).toNat) 0)).set ((7 * x3 + 3).toNat) 0)).set ((7 * x3 + 4).toNat) 0)).set ((7 * x3 + 5).toNat) 0)).set ((7 * x3 + 6).toNat) 1)), (100, [], []), jzA_323, jzA_331, jgh, jgh, (101, [], [0, 0, 0, 0, 0, 0]), jgh, jgh, jgh, jgh, jgh, jgh, jgh, jgh, jzA_324, (117, [], [44, 45, 46, 47]), jgh, jgh, jgh, (100, [], jS0), jgh, jgh, jgh, jgh, jgh, jgh, jgh, (4, [(4, 48), (1, 1)], []), (7, [(4, 49), (4, (-1)), (4, (-1))], []), jgh, jgh, jgh, (101, [], [0, 0, 0, 0, 0, 0]), (114, [], [43]), (101, [], [0, 0, 0, 0, 0, 0]), (4, [(4, 50), (1, 1)], []), jgh, jzA_2338]) (jA_252_565 (d := 0) (by omega)) (by rfl) (by rfl) (by decide +kernel) (by rfl) (by rfl) (by omega) (by omega) (by omega) (by omega) rfl rfl ?_
  refine jT_xistore (v := (0, 0)) (LN := [(7, (0, 0)), (6, (0, 0)), (5, (0, 0)), (4, (4, 3)), (3, (4, 2)), (2, (4, 1)), (1, (4, 0)), (0, (6, 0))]) (pcN := 1363) jI_379_1361 rfl rfl rfl rfl ?_
  refine jT_xaload_n (v := (4, 1)) (pcN := 1364) jI_379_1363 rfl rfl rfl ?_
  refine jT_callA [1, 15, 16, 17, 18, 19, 20, 21, 22, 23, 24, 25, 26, 27, 28, 29] (y := 186) (pcN := 1367) (dC := 0) (bc1 := 0) (bc2 := 0) (c1 := 0) (c2 := 0) (as := [(4, 1)]) (asC := [(4, 0)]) (LN := [(7, (0, 0)), (6, (0, 0)), (5, (0, 0)), (4, (4, 3)), (3, (4, 2)), (2, (4, 1)), (1, (4, 0)), (0, (6, 0))]) (stN := []) (hsC := jpA_258) (ex := []) (v := (0, 0)) (st2 := [(0, 0)]) (hs2 := [jzA_2337, jzA_330, (101, [], [0]), jgh, jgh, jgh, jgh, jgh, jgh, jgh, jgh, jgh, jgh, jzA_327, jzA_322, (100, [], ((((((((((((((jS0).set ((7 * x3).toNat) 0)).set ((7 * x3 + 1).toNat) 0)).set ((7 * x3 + 2).toNat) 0)).set ((7 * x3 + 3).toNat) 0)).set ((7 * x3 + 4).toNat) 0)).set ((7 * x3 + 5).toNat) 0)).set ((7 * x3 + 6).toNat) 1)), (100, [], []), jzA_323, jzA_331, jgh, jgh, (101, [], [0, 0, 0, 0, 0, 0]), jgh, jgh, jgh, jgh, jgh, jgh, jgh, jgh, jzA_324, (117, [], [44, 45, 46, 47]), jgh, jgh, jgh, (100, [], jS0), jgh, jgh, jgh, jgh, jgh, jgh, jgh, (4, [(4, 48), (1, 1)], []), (7, [(4, 49), (4, (-1)), (4, (-1))], []), jgh, jgh, jgh, (101, [], [0, 0, 0, 0, 0, 0]), (114, [], [43]), (101, [], [0, 0, 0, 0, 0, 0]), (4, [(4, 50), (1, 1)], []), jgh, jzA_2338]) (jA_186_54 (d := 0)) (by rfl) (by rfl) (by rfl) (by rfl) ⟨rfl, rfl, rfl, rfl, rfl, rfl, rfl, rfl, rfl, rfl, rfl, rfl, rfl, rfl, rfl, rfl, trivial⟩ (by rfl) (by rfl) (by omega) (by show 50 ≤ 54; omega) (by omega) (by omega) rfl rfl ?_
  refine jT_xiload (v := (0, 0)) (pcN := 1369) jI_379_1367 rfl rfl rfl ?_
  refine jT_xicT (pcN := 1374) jI_379_1369 rfl (by decide +kernel) rfl ?_
  refine jT_xiload (v := (0, 0)) (pcN := 1376) jI_379_1374 rfl rfl rfl ?_
  refine jT_xifF (t := 1391) (pcN := 1379) jI_379_1376 rfl (by decide +kernel) rfl rfl ?_
  refine jT_xaload_n (v := (4, 2)) (pcN := 1380) jI_379_1379 rfl rfl rfl ?_
  refine jT_xiconst (k := 0) (pcN := 1381) jI_379_1380 rfl ?_
  refine jT_lald (x := 0) (a := 2) (j := 0) (fs := []) (X := [0]) jI_379_1381 rfl rfl rfl rfl ?_
  refine jT_eq (LN := [(7, (0, 0)), (6, (0, 0)), (5, (0, 0)), (4, (4, 3)), (3, (4, 2)), (2, (4, 1)), (1, (4, 0)), (0, (6, 0))]) (stN := [(1, 0)]) (hsN := [jzA_2337, jzA_330, (101, [], [0]), jgh, jgh, jgh, jgh, jgh, jgh, jgh, jgh, jgh, jgh, jzA_327, jzA_322, (100, [], ((((((((((((((jS0).set ((7 * x3).toNat) 0)).set ((7 * x3 + 1).toNat) 0)).set ((7 * x3 + 2).toNat) 0)).set ((7 * x3 + 3).toNat) 0)).set ((7 * x3 + 4).toNat) 0)).set ((7 * x3 + 5).toNat) 0)).set ((7 * x3 + 6).toNat) 1)), (100, [], []), jzA_323, jzA_331, jgh, jgh, (101, [], [0, 0, 0, 0, 0, 0]), jgh, jgh, jgh, jgh, jgh, jgh, jgh, jgh, jzA_324, (117, [], [44, 45, 46, 47]), jgh, jgh, jgh, (100, [], jS0), jgh, jgh, jgh, jgh, jgh, jgh, jgh, (4, [(4, 48), (1, 1)], []), (7, [(4, 49), (4, (-1)), (4, (-1))], []), jgh, jgh, jgh, (101, [], [0, 0, 0, 0, 0, 0]), (114, [], [43]), (101, [], [0, 0, 0, 0, 0, 0]), (4, [(4, 50), (1, 1)], []), jgh, jzA_2338]) rfl rfl rfl ?_
  refine jT_xiload (v := (0, 0)) (pcN := 1384) jI_379_1382 rfl rfl rfl ?_
  refine jT_xi2l (x := 0) (z := 0) (pcN := 1385) jI_379_1384 rfl (by decide +kernel) rfl ?_
  refine jT_lcmp (a := 0) (b := 0) (z := 0) (by rfl) (by rfl) (by decide +kernel) (by decide +kernel) (by decide) ?_
  refine jT_xifT (pcN := 1391) jI_379_1386 rfl (by decide +kernel) rfl ?_
  refine jT_xgoto (pcN := 3740) jI_379_1391 rfl ?_
  refine jT_xiinc (x := 0) (z := 5) (LN := [(5, (0, 5)), (7, (0, 0)), (6, (0, 0)), (4, (4, 3)), (3, (4, 2)), (2, (4, 1)), (1, (4, 0)), (0, (6, 0))]) (pcN := 3743) jI_379_3740 rfl rfl (by decide) rfl rfl ?_
  refine jT_xgoto (pcN := 28) jI_379_3743 rfl ?_
  refine jT_xiload (v := (0, 5)) (pcN := 30) jI_379_28 rfl rfl rfl ?_
  refine jT_xaload_n (v := (6, 0)) (pcN := 31) jI_379_30 rfl rfl rfl ?_
  refine jT_adv 1 (pcN := 32) (LN := [(5, (0, 5)), (7, (0, 0)), (6, (0, 0)), (4, (4, 3)), (3, (4, 2)), (2, (4, 1)), (1, (4, 0)), (0, (6, 0))]) (stN := [(0, 5), (0, 5)]) (hsN := [jzA_2337, jzA_330, (101, [], [0]), jgh, jgh, jgh, jgh, jgh, jgh, jgh, jgh, jgh, jgh, jzA_327, jzA_322, (100, [], ((((((((((((((jS0).set ((7 * x3).toNat) 0)).set ((7 * x3 + 1).toNat) 0)).set ((7 * x3 + 2).toNat) 0)).set ((7 * x3 + 3).toNat) 0)).set ((7 * x3 + 4).toNat) 0)).set ((7 * x3 + 5).toNat) 0)).set ((7 * x3 + 6).toNat) 1)), (100, [], []), jzA_323, jzA_331, jgh, jgh, (101, [], [0, 0, 0, 0, 0, 0]), jgh, jgh, jgh, jgh, jgh, jgh, jgh, jgh, jzA_324, (117, [], [44, 45, 46, 47]), jgh, jgh, jgh, (100, [], jS0), jgh, jgh, jgh, jgh, jgh, jgh, jgh, (4, [(4, 48), (1, 1)], []), (7, [(4, 49), (4, (-1)), (4, (-1))], []), jgh, jgh, jgh, (101, [], [0, 0, 0, 0, 0, 0]), (114, [], [43]), (101, [], [0, 0, 0, 0, 0, 0]), (4, [(4, 50), (1, 1)], []), jgh, jzA_2338]) (c1 := 0) (s1 := 0) (c2 := 0) (s2 := 0) (by exact rfl) ?_ (by omega) (by omega)
  refine jT_xiconst (k := 5) (pcN := 33) jI_379_32 rfl ?_
  refine jT_xisub (x := 5) (y := 5) (z := 0) (pcN := 34) jI_379_33 rfl (by decide) rfl ?_
  refine jT_xicT (pcN := 3746) jI_379_34 rfl (by decide +kernel) rfl ?_
  refine jT_xiconst (k := 1) (pcN := 3747) jI_379_3746 rfl ?_
  exact jT_ret rfl (by decide) (by show 50 ≤ 54; decide) (by omega) (by omega) ⟨rfl, rfl⟩
set_option maxRecDepth 100000 in
theorem jL_13_5 {d : Nat} {x0 x1 x2 x3 x4 : Int} (h_x0 : (-2147483648) ≤ x0 ∧ x0 ≤ 2147483647) (h_x1 : 0 ≤ x1 ∧ x1 ≤ 0) (h_x2 : 1 ≤ x2 ∧ x2 ≤ 200) (h_x3 : 0 ≤ x3 ∧ x3 ≤ 7) (h_x4 : (-2147483648) ≤ x4 ∧ x4 ≤ 2147483647) : jT [x0, x1, x2, x3, x4] (d + 5) 379 50 1314 [(5, (0, 0)), (4, (4, 3)), (3, (4, 2)), (2, (4, 1)), (1, (4, 0)), (0, (6, 0))] [] jpA_2336 4 21 (fun k v hsN => k = 0 ∧ v = (0, 1)) := by
  refine jT_xaload_n (v := (4, 0)) (pcN := 1315) jI_379_1314 rfl rfl rfl ?_
  refine jT_xaload_n (v := (6, 0)) (pcN := 1316) jI_379_1315 rfl rfl rfl ?_
  refine jT_xiload (v := (0, 0)) (pcN := 1318) jI_379_1316 rfl rfl rfl ?_
  refine jT_xiconst (k := 1) (pcN := 1319) jI_379_1318 rfl ?_
  refine jT_xiadd (x := 0) (y := 1) (z := 1) (pcN := 1320) jI_379_1319 rfl (by decide) rfl ?_
  refine jT_adv 1 (pcN := 1321) (LN := [(5, (0, 0)), (4, (4, 3)), (3, (4, 2)), (2, (4, 1)), (1, (4, 0)), (0, (6, 0))]) (stN := [(0, x1), (4, 0)]) (hsN := jpA_2336) (c1 := 0) (s1 := 0) (c2 := 4) (s2 := 21) (by exact rfl) ?_ (by omega) (by omega)
  refine jT_eq (LN := [(5, (0, 0)), (4, (4, 3)), (3, (4, 2)), (2, (4, 1)), (1, (4, 0)), (0, (6, 0))]) (stN := [(0, 0), (4, 0)]) (hsN := [jzA_265, jzA_266, (101, [], [0]), jgh, jgh, jgh, jgh, jgh, jgh, jgh, jgh, jgh, jgh, jzA_79, jzA_322, (100, [], jS0), (100, [], []), jzA_323, jzA_197, jgh, jgh, (101, [], [0, 0, 0, 0, 0, 0]), jgh, jgh, jgh, jgh, jgh, jgh, jgh, jgh, jzA_324, (117, [], [44, 45, 46, 47]), jgh, jgh, jgh, (100, [], (List.replicate 1613 0)), jgh, jgh, jgh, jgh, jgh, jgh, jgh, (4, [(4, 48), (1, 1)], []), (7, [(4, 49), (4, (-1)), (4, (-1))], []), jgh, jgh, jgh, (101, [], [0, 0, 0, 0, 0, 0]), (114, [], [43])]) (rfl) (by simp only [List.cons.injEq, Prod.mk.injEq, and_true, true_and] <;> ((try unfold jw); (try unfold jwl); omega)) (rfl) ?_
  refine jT_xaload_n (v := (6, 0)) (pcN := 1322) jI_379_1321 rfl rfl rfl ?_
  refine jT_xiload (v := (0, 0)) (pcN := 1324) jI_379_1322 rfl rfl rfl ?_
  refine jT_xiconst (k := 2) (pcN := 1325) jI_379_1324 rfl ?_
  refine jT_xiadd (x := 0) (y := 2) (z := 2) (pcN := 1326) jI_379_1325 rfl (by decide) rfl ?_
  refine jT_adv 1 (pcN := 1327) (LN := [(5, (0, 0)), (4, (4, 3)), (3, (4, 2)), (2, (4, 1)), (1, (4, 0)), (0, (6, 0))]) (stN := [(0, x2), (0, 0), (4, 0)]) (hsN := jpA_2336) (c1 := 0) (s1 := 0) (c2 := 4) (s2 := 21) (by exact rfl) ?_ (by omega) (by omega)
  refine jT_xaload_n (v := (6, 0)) (pcN := 1328) jI_379_1327 rfl rfl rfl ?_
  refine jT_xiload (v := (0, 0)) (pcN := 1330) jI_379_1328 rfl rfl rfl ?_
  refine jT_xiconst (k := 3) (pcN := 1331) jI_379_1330 rfl ?_
  refine jT_xiadd (x := 0) (y := 3) (z := 3) (pcN := 1332) jI_379_1331 rfl (by decide) rfl ?_
  refine jT_adv 1 (pcN := 1333) (LN := [(5, (0, 0)), (4, (4, 3)), (3, (4, 2)), (2, (4, 1)), (1, (4, 0)), (0, (6, 0))]) (stN := [(0, x3), (0, x2), (0, 0), (4, 0)]) (hsN := jpA_2336) (c1 := 0) (s1 := 0) (c2 := 4) (s2 := 21) (by exact rfl) ?_ (by omega) (by omega)
  refine jT_xaload_n (v := (4, 2)) (pcN := 1334) jI_379_1333 rfl rfl rfl ?_
  refine jT_fB [0, 2, 4, 5, 6, 7, 8, 9, 10, 11, 12, 13, 14, 30, 31, 32, 33, 34, 43, 44, 45, 46, 47, 48, 49] 50 (y := 339) (pcN := 1337) (dC := 4) (bc1 := 4) (bc2 := 21) (c1 := 0) (c2 := 0) (as := [(4, 0), (0, 0), (0, x2), (0, x3), (4, 2)]) (asC := [(4, 0), (0, 0), (0, x2), (0, x3), (4, 1)]) (LN := [(5, (0, 0)), (4, (4, 3)), (3, (4, 2)), (2, (4, 1)), (1, (4, 0)), (0, (6, 0))]) (stN := []) (hsC := jpA_2225) (hsD := [jzA_2220, (101, [], [0]), jgh, jgh, jgh, jgh, jgh, jgh, jgh, jgh, jgh, jzA_76, jzA_77, jzA_109, (117, [], [19, 20, 21, 22]), jgh, jgh, jgh, (4, [(4, 23), (1, 1)], []), (7, [(4, 24), (4, (-1)), (4, (-1))], []), jgh, jgh, jgh, (101, [], [0, 0, 0, 0, 0, 0]), (114, [], [18]), (101, [], [x2, 0, 0, 0, 0, 0]), (4, [(4, 25), (1, 1)], []), jgh, jzA_2221]) (v := (0, 0)) (st2 := [(0, 0)]) (hs2 := [jzA_2337, jzA_266, (101, [], [0]), jgh, jgh, jgh, jgh, jgh, jgh, jgh, jgh, jgh, jgh, jzA_327, jzA_322, (100, [], jS0), (100, [], []), jzA_323, jzA_197, jgh, jgh, (101, [], [0, 0, 0, 0, 0, 0]), jgh, jgh, jgh, jgh, jgh, jgh, jgh, jgh, jzA_324, (117, [], [44, 45, 46, 47]), jgh, jgh, jgh, (100, [], (List.replicate 1613 0)), jgh, jgh, jgh, jgh, jgh, jgh, jgh, (4, [(4, 48), (1, 1)], []), (7, [(4, 49), (4, (-1)), (4, (-1))], []), jgh, jgh, jgh, (101, [], [0, 0, 0, 0, 0, 0]), (114, [], [43]), (101, [], [x2, 0, 0, 0, 0, 0]), (4, [(4, 50), (1, 1)], []), jgh, jzA_2338]) (jA_339_574 (d := 0) (by omega) (by omega)) (by rfl) (by rfl) (by decide +kernel) (by rfl) (by rfl) (by omega) (by omega) (by omega) (by omega) rfl rfl ?_
  refine jT_xistore (v := (0, 0)) (LN := [(6, (0, 0)), (5, (0, 0)), (4, (4, 3)), (3, (4, 2)), (2, (4, 1)), (1, (4, 0)), (0, (6, 0))]) (pcN := 1339) jI_379_1337 rfl rfl rfl rfl ?_
  refine jT_xaload_n (v := (4, 1)) (pcN := 1340) jI_379_1339 rfl rfl rfl ?_
  refine jT_xaload_n (v := (6, 0)) (pcN := 1341) jI_379_1340 rfl rfl rfl ?_
  refine jT_xiload (v := (0, 0)) (pcN := 1343) jI_379_1341 rfl rfl rfl ?_
  refine jT_xiconst (k := 1) (pcN := 1344) jI_379_1343 rfl ?_
  refine jT_xiadd (x := 0) (y := 1) (z := 1) (pcN := 1345) jI_379_1344 rfl (by decide) rfl ?_
  refine jT_adv 1 (pcN := 1346) (LN := [(6, (0, 0)), (5, (0, 0)), (4, (4, 3)), (3, (4, 2)), (2, (4, 1)), (1, (4, 0)), (0, (6, 0))]) (stN := [(0, x1), (4, 1)]) (hsN := [jzA_2337, jzA_266, (101, [], [0]), jgh, jgh, jgh, jgh, jgh, jgh, jgh, jgh, jgh, jgh, jzA_327, jzA_322, (100, [], jS0), (100, [], []), jzA_323, jzA_197, jgh, jgh, (101, [], [0, 0, 0, 0, 0, 0]), jgh, jgh, jgh, jgh, jgh, jgh, jgh, jgh, jzA_324, (117, [], [44, 45, 46, 47]), jgh, jgh, jgh, (100, [], (List.replicate 1613 0)), jgh, jgh, jgh, jgh, jgh, jgh, jgh, (4, [(4, 48), (1, 1)], []), (7, [(4, 49), (4, (-1)), (4, (-1))], []), jgh, jgh, jgh, (101, [], [0, 0, 0, 0, 0, 0]), (114, [], [43]), (101, [], [x2, 0, 0, 0, 0, 0]), (4, [(4, 50), (1, 1)], []), jgh, jzA_2338]) (c1 := 0) (s1 := 0) (c2 := 0) (s2 := 0) (by exact rfl) ?_ (by omega) (by omega)
  refine jT_eq (LN := [(6, (0, 0)), (5, (0, 0)), (4, (4, 3)), (3, (4, 2)), (2, (4, 1)), (1, (4, 0)), (0, (6, 0))]) (stN := [(0, 0), (4, 1)]) (hsN := [jzA_2337, jzA_266, (101, [], [0]), jgh, jgh, jgh, jgh, jgh, jgh, jgh, jgh, jgh, jgh, jzA_327, jzA_322, (100, [], jS0), (100, [], []), jzA_323, jzA_197, jgh, jgh, (101, [], [0, 0, 0, 0, 0, 0]), jgh, jgh, jgh, jgh, jgh, jgh, jgh, jgh, jzA_324, (117, [], [44, 45, 46, 47]), jgh, jgh, jgh, (100, [], (List.replicate 1613 0)), jgh, jgh, jgh, jgh, jgh, jgh, jgh, (4, [(4, 48), (1, 1)], []), (7, [(4, 49), (4, (-1)), (4, (-1))], []), jgh, jgh, jgh, (101, [], [0, 0, 0, 0, 0, 0]), (114, [], [43]), (101, [], [x2, 0, 0, 0, 0, 0]), (4, [(4, 50), (1, 1)], []), jgh, jzA_2338]) (rfl) (by simp only [List.cons.injEq, Prod.mk.injEq, and_true, true_and] <;> ((try unfold jw); (try unfold jwl); omega)) (rfl) ?_
  refine jT_xaload_n (v := (6, 0)) (pcN := 1347) jI_379_1346 rfl rfl rfl ?_
  refine jT_xiload (v := (0, 0)) (pcN := 1349) jI_379_1347 rfl rfl rfl ?_
  refine jT_xiconst (k := 2) (pcN := 1350) jI_379_1349 rfl ?_
  refine jT_xiadd (x := 0) (y := 2) (z := 2) (pcN := 1351) jI_379_1350 rfl (by decide) rfl ?_
  refine jT_adv 1 (pcN := 1352) (LN := [(6, (0, 0)), (5, (0, 0)), (4, (4, 3)), (3, (4, 2)), (2, (4, 1)), (1, (4, 0)), (0, (6, 0))]) (stN := [(0, x2), (0, 0), (4, 1)]) (hsN := [jzA_2337, jzA_266, (101, [], [0]), jgh, jgh, jgh, jgh, jgh, jgh, jgh, jgh, jgh, jgh, jzA_327, jzA_322, (100, [], jS0), (100, [], []), jzA_323, jzA_197, jgh, jgh, (101, [], [0, 0, 0, 0, 0, 0]), jgh, jgh, jgh, jgh, jgh, jgh, jgh, jgh, jzA_324, (117, [], [44, 45, 46, 47]), jgh, jgh, jgh, (100, [], (List.replicate 1613 0)), jgh, jgh, jgh, jgh, jgh, jgh, jgh, (4, [(4, 48), (1, 1)], []), (7, [(4, 49), (4, (-1)), (4, (-1))], []), jgh, jgh, jgh, (101, [], [0, 0, 0, 0, 0, 0]), (114, [], [43]), (101, [], [x2, 0, 0, 0, 0, 0]), (4, [(4, 50), (1, 1)], []), jgh, jzA_2338]) (c1 := 0) (s1 := 0) (c2 := 0) (s2 := 0) (by exact rfl) ?_ (by omega) (by omega)
  refine jT_xaload_n (v := (6, 0)) (pcN := 1353) jI_379_1352 rfl rfl rfl ?_
  refine jT_xiload (v := (0, 0)) (pcN := 1355) jI_379_1353 rfl rfl rfl ?_
  refine jT_xiconst (k := 3) (pcN := 1356) jI_379_1355 rfl ?_
  refine jT_xiadd (x := 0) (y := 3) (z := 3) (pcN := 1357) jI_379_1356 rfl (by decide) rfl ?_
  refine jT_adv 1 (pcN := 1358) (LN := [(6, (0, 0)), (5, (0, 0)), (4, (4, 3)), (3, (4, 2)), (2, (4, 1)), (1, (4, 0)), (0, (6, 0))]) (stN := [(0, x3), (0, x2), (0, 0), (4, 1)]) (hsN := [jzA_2337, jzA_266, (101, [], [0]), jgh, jgh, jgh, jgh, jgh, jgh, jgh, jgh, jgh, jgh, jzA_327, jzA_322, (100, [], jS0), (100, [], []), jzA_323, jzA_197, jgh, jgh, (101, [], [0, 0, 0, 0, 0, 0]), jgh, jgh, jgh, jgh, jgh, jgh, jgh, jgh, jzA_324, (117, [], [44, 45, 46, 47]), jgh, jgh, jgh, (100, [], (List.replicate 1613 0)), jgh, jgh, jgh, jgh, jgh, jgh, jgh, (4, [(4, 48), (1, 1)], []), (7, [(4, 49), (4, (-1)), (4, (-1))], []), jgh, jgh, jgh, (101, [], [0, 0, 0, 0, 0, 0]), (114, [], [43]), (101, [], [x2, 0, 0, 0, 0, 0]), (4, [(4, 50), (1, 1)], []), jgh, jzA_2338]) (c1 := 0) (s1 := 0) (c2 := 0) (s2 := 0) (by exact rfl) ?_ (by omega) (by omega)
  refine jT_callB [1, 15, 16, 17, 18, 19, 20, 21, 22, 23, 24, 25, 26, 27, 28, 29, 35, 36, 37, 38, 39, 40, 41, 42] (y := 252) (pcN := 1361) (dC := 2) (bc1 := 0) (bc2 := 0) (c1 := 0) (c2 := 0) (as := [(4, 1), (0, 0), (0, x2), (0, x3)]) (asC := [(4, 0), (0, 0), (0, x2), (0, x3)]) (LN := [(6, (0, 0)), (5, (0, 0)), (4, (4, 3)), (3, (4, 2)), (2, (4, 1)), (1, (4, 0)), (0, (6, 0))]) (stN := []) (hsC := jpA_248) (hsD := [jzA_200, (100, [], ((((((((((((((jS0).set ((7 * x3).toNat) x2)).set ((7 * x3 + 1).toNat) 0)).set ((7 * x3 + 2).toNat) 0)).set ((7 * x3 + 3).toNat) 0)).set ((7 * x3 + 4).toNat) 0)).set ((7 * x3 + 5).toNat) 0)).set ((7 * x3 + 6).toNat) 1)), (100, [], []), jzA_196, jzA_201, jgh, jgh, (101, [], [x2, 0, 0, 0, 0, 0]), jgh, jgh, jgh, jgh, jgh, jgh, jgh, jgh, (100, [], jS0), jgh, jgh, jgh, jgh, jgh, jgh, jgh]) (v := (0, 0)) (st2 := [(0, 0)]) (hs2 := [jzA_2337, jzA_330, (101, [], [0]), jgh, jgh, jgh, jgh, jgh, jgh, jgh, jgh, jgh, jgh, jzA_327, jzA_322, (100, [], ((((((((((((((jS0).set ((7 * x3).toNat) x2)).set ((7 * x3 + 1).toNat) 0)).set ((7 * x3 + 2).toNat) 0)).set ((7 * x3 + 3).toNat) 0)).set ((7 * x3 + 4).toNat) 0)).set ((7 * x3 + 5).toNat) 0)).set ((7 * x3 + 6).toNat) 1)), (100, [], []), jzA_323, jzA_331, jgh, jgh, (101, [], [x2, 0, 0, 0, 0, 0]), jgh, jgh, jgh, jgh, jgh, jgh, jgh, jgh, jzA_324, (117, [], [44, 45, 46, 47]), jgh, jgh, jgh, (100, [], jS0), jgh, jgh, jgh, jgh, jgh, jgh, jgh, (4, [(4, 48), (1, 1)], []), (7, [(4, 49), (4, (-1)), (4, (-1))], []), jgh, jgh, jgh, (101, [], [0, 0, 0, 0, 0, 0]), (114, [], [43]), (101, [], [x2, 0, 0, 0, 0, 0]), (4, [(4, 50), (1, 1)], []), jgh, jzA_2338]) (jA_252_578 (d := 0) (by omega) (by omega)) (by rfl) (by rfl) (by rfl) (by rfl) ⟨rfl, rfl, rfl, rfl, rfl, rfl, rfl, rfl, rfl, rfl, rfl, rfl, rfl, rfl, rfl, rfl, rfl, rfl, rfl, rfl, rfl, rfl, rfl, rfl, trivial⟩ (by rfl) (by rfl) (by omega) (by show 50 ≤ 54; omega) (by omega) (by omega) rfl rfl ?_
  refine jT_xistore (v := (0, 0)) (LN := [(7, (0, 0)), (6, (0, 0)), (5, (0, 0)), (4, (4, 3)), (3, (4, 2)), (2, (4, 1)), (1, (4, 0)), (0, (6, 0))]) (pcN := 1363) jI_379_1361 rfl rfl rfl rfl ?_
  refine jT_xaload_n (v := (4, 1)) (pcN := 1364) jI_379_1363 rfl rfl rfl ?_
  refine jT_callA [1, 15, 16, 17, 18, 19, 20, 21, 22, 23, 24, 25, 26, 27, 28, 29] (y := 186) (pcN := 1367) (dC := 0) (bc1 := 0) (bc2 := 0) (c1 := 0) (c2 := 0) (as := [(4, 1)]) (asC := [(4, 0)]) (LN := [(7, (0, 0)), (6, (0, 0)), (5, (0, 0)), (4, (4, 3)), (3, (4, 2)), (2, (4, 1)), (1, (4, 0)), (0, (6, 0))]) (stN := []) (hsC := jpA_258) (ex := []) (v := (0, 0)) (st2 := [(0, 0)]) (hs2 := [jzA_2337, jzA_330, (101, [], [0]), jgh, jgh, jgh, jgh, jgh, jgh, jgh, jgh, jgh, jgh, jzA_327, jzA_322, (100, [], ((((((((((((((jS0).set ((7 * x3).toNat) x2)).set ((7 * x3 + 1).toNat) 0)).set ((7 * x3 + 2).toNat) 0)).set ((7 * x3 + 3).toNat) 0)).set ((7 * x3 + 4).toNat) 0)).set ((7 * x3 + 5).toNat) 0)).set ((7 * x3 + 6).toNat) 1)), (100, [], []), jzA_323, jzA_331, jgh, jgh, (101, [], [x2, 0, 0, 0, 0, 0]), jgh, jgh, jgh, jgh, jgh, jgh, jgh, jgh, jzA_324, (117, [], [44, 45, 46, 47]), jgh, jgh, jgh, (100, [], jS0), jgh, jgh, jgh, jgh, jgh, jgh, jgh, (4, [(4, 48), (1, 1)], []), (7, [(4, 49), (4, (-1)), (4, (-1))], []), jgh, jgh, jgh, (101, [], [0, 0, 0, 0, 0, 0]), (114, [], [43]), (101, [], [x2, 0, 0, 0, 0, 0]), (4, [(4, 50), (1, 1)], []), jgh, jzA_2338]) (jA_186_54 (d := 0)) (by rfl) (by rfl) (by rfl) (by rfl) ⟨rfl, rfl, rfl, rfl, rfl, rfl, rfl, rfl, rfl, rfl, rfl, rfl, rfl, rfl, rfl, rfl, trivial⟩ (by rfl) (by rfl) (by omega) (by show 50 ≤ 54; omega) (by omega) (by omega) rfl rfl ?_
  refine jT_xiload (v := (0, 0)) (pcN := 1369) jI_379_1367 rfl rfl rfl ?_
  refine jT_xicT (pcN := 1374) jI_379_1369 rfl (by decide +kernel) rfl ?_
  refine jT_xiload (v := (0, 0)) (pcN := 1376) jI_379_1374 rfl rfl rfl ?_
  refine jT_xifF (t := 1391) (pcN := 1379) jI_379_1376 rfl (by decide +kernel) rfl rfl ?_
  refine jT_xaload_n (v := (4, 2)) (pcN := 1380) jI_379_1379 rfl rfl rfl ?_
  refine jT_xiconst (k := 0) (pcN := 1381) jI_379_1380 rfl ?_
  refine jT_lald (x := 0) (a := 2) (j := 0) (fs := []) (X := [0]) jI_379_1381 rfl rfl rfl rfl ?_
  refine jT_eq (LN := [(7, (0, 0)), (6, (0, 0)), (5, (0, 0)), (4, (4, 3)), (3, (4, 2)), (2, (4, 1)), (1, (4, 0)), (0, (6, 0))]) (stN := [(1, 0)]) (hsN := [jzA_2337, jzA_330, (101, [], [0]), jgh, jgh, jgh, jgh, jgh, jgh, jgh, jgh, jgh, jgh, jzA_327, jzA_322, (100, [], ((((((((((((((jS0).set ((7 * x3).toNat) x2)).set ((7 * x3 + 1).toNat) 0)).set ((7 * x3 + 2).toNat) 0)).set ((7 * x3 + 3).toNat) 0)).set ((7 * x3 + 4).toNat) 0)).set ((7 * x3 + 5).toNat) 0)).set ((7 * x3 + 6).toNat) 1)), (100, [], []), jzA_323, jzA_331, jgh, jgh, (101, [], [x2, 0, 0, 0, 0, 0]), jgh, jgh, jgh, jgh, jgh, jgh, jgh, jgh, jzA_324, (117, [], [44, 45, 46, 47]), jgh, jgh, jgh, (100, [], jS0), jgh, jgh, jgh, jgh, jgh, jgh, jgh, (4, [(4, 48), (1, 1)], []), (7, [(4, 49), (4, (-1)), (4, (-1))], []), jgh, jgh, jgh, (101, [], [0, 0, 0, 0, 0, 0]), (114, [], [43]), (101, [], [x2, 0, 0, 0, 0, 0]), (4, [(4, 50), (1, 1)], []), jgh, jzA_2338]) rfl rfl rfl ?_
  refine jT_xiload (v := (0, 0)) (pcN := 1384) jI_379_1382 rfl rfl rfl ?_
  refine jT_xi2l (x := 0) (z := 0) (pcN := 1385) jI_379_1384 rfl (by decide +kernel) rfl ?_
  refine jT_lcmp (a := 0) (b := 0) (z := 0) (by rfl) (by rfl) (by decide +kernel) (by decide +kernel) (by decide) ?_
  refine jT_xifT (pcN := 1391) jI_379_1386 rfl (by decide +kernel) rfl ?_
  refine jT_xgoto (pcN := 3740) jI_379_1391 rfl ?_
  refine jT_xiinc (x := 0) (z := 5) (LN := [(5, (0, 5)), (7, (0, 0)), (6, (0, 0)), (4, (4, 3)), (3, (4, 2)), (2, (4, 1)), (1, (4, 0)), (0, (6, 0))]) (pcN := 3743) jI_379_3740 rfl rfl (by decide) rfl rfl ?_
  refine jT_xgoto (pcN := 28) jI_379_3743 rfl ?_
  refine jT_xiload (v := (0, 5)) (pcN := 30) jI_379_28 rfl rfl rfl ?_
  refine jT_xaload_n (v := (6, 0)) (pcN := 31) jI_379_30 rfl rfl rfl ?_
  refine jT_adv 1 (pcN := 32) (LN := [(5, (0, 5)), (7, (0, 0)), (6, (0, 0)), (4, (4, 3)), (3, (4, 2)), (2, (4, 1)), (1, (4, 0)), (0, (6, 0))]) (stN := [(0, 5), (0, 5)]) (hsN := [jzA_2337, jzA_330, (101, [], [0]), jgh, jgh, jgh, jgh, jgh, jgh, jgh, jgh, jgh, jgh, jzA_327, jzA_322, (100, [], ((((((((((((((jS0).set ((7 * x3).toNat) x2)).set ((7 * x3 + 1).toNat) 0)).set ((7 * x3 + 2).toNat) 0)).set ((7 * x3 + 3).toNat) 0)).set ((7 * x3 + 4).toNat) 0)).set ((7 * x3 + 5).toNat) 0)).set ((7 * x3 + 6).toNat) 1)), (100, [], []), jzA_323, jzA_331, jgh, jgh, (101, [], [x2, 0, 0, 0, 0, 0]), jgh, jgh, jgh, jgh, jgh, jgh, jgh, jgh, jzA_324, (117, [], [44, 45, 46, 47]), jgh, jgh, jgh, (100, [], jS0), jgh, jgh, jgh, jgh, jgh, jgh, jgh, (4, [(4, 48), (1, 1)], []), (7, [(4, 49), (4, (-1)), (4, (-1))], []), jgh, jgh, jgh, (101, [], [0, 0, 0, 0, 0, 0]), (114, [], [43]), (101, [], [x2, 0, 0, 0, 0, 0]), (4, [(4, 50), (1, 1)], []), jgh, jzA_2338]) (c1 := 0) (s1 := 0) (c2 := 0) (s2 := 0) (by exact rfl) ?_ (by omega) (by omega)
  refine jT_xiconst (k := 5) (pcN := 33) jI_379_32 rfl ?_
  refine jT_xisub (x := 5) (y := 5) (z := 0) (pcN := 34) jI_379_33 rfl (by decide) rfl ?_
  refine jT_xicT (pcN := 3746) jI_379_34 rfl (by decide +kernel) rfl ?_
  refine jT_xiconst (k := 1) (pcN := 3747) jI_379_3746 rfl ?_
  exact jT_ret rfl (by decide) (by show 50 ≤ 54; decide) (by omega) (by omega) ⟨rfl, rfl⟩
def jpA_2346 : List JC := [jzA_265, jzA_266, (101, [], [0]), jgh, jgh, jgh, jgh, jgh, jgh, jgh, jgh, jgh, jgh, jzA_79, jzA_322, (100, [], jS0), (100, [], []), jzA_323, jzA_197, jgh, jgh, (101, [], [0, 0, 0, 0, 0, 0]), jgh, jgh, jgh, jgh, jgh, jgh, jgh, jgh, jzA_324, (117, [], [44, 45, 46, 47]), jgh, jgh, jgh, (100, [], (List.replicate 1613 0)), jgh, jgh, jgh, jgh, jgh, jgh, jgh, (4, [(4, 48), (1, 1)], []), jgh, (7, [(4, 49), (4, (-1)), (4, (-1))], []), jgh, jgh, (101, [], [0, 0, 0, 0, 0, 0]), (114, [], [43])]
set_option maxRecDepth 100000 in
theorem jL_13_6 {d : Nat} {x0 x1 x2 x3 x4 : Int} (h_x0 : (-2147483648) ≤ x0 ∧ x0 ≤ 2147483647) (h_x1 : 1 ≤ x1 ∧ x1 ≤ 1) (h_x2 : (-200) ≤ x2 ∧ x2 ≤ (-1)) (h_x3 : 0 ≤ x3 ∧ x3 ≤ 7) (h_x4 : (-2147483648) ≤ x4 ∧ x4 ≤ 2147483647) : jT [x0, x1, x2, x3, x4] (d + 5) 379 50 1314 [(5, (0, 0)), (4, (4, 3)), (3, (4, 2)), (2, (4, 1)), (1, (4, 0)), (0, (6, 0))] [] jpA_2346 4 21 (fun k v hsN => k = 0 ∧ v = (0, 1)) := by
  refine jT_xaload_n (v := (4, 0)) (pcN := 1315) jI_379_1314 rfl rfl rfl ?_
  refine jT_xaload_n (v := (6, 0)) (pcN := 1316) jI_379_1315 rfl rfl rfl ?_
  refine jT_xiload (v := (0, 0)) (pcN := 1318) jI_379_1316 rfl rfl rfl ?_
  refine jT_xiconst (k := 1) (pcN := 1319) jI_379_1318 rfl ?_
  refine jT_xiadd (x := 0) (y := 1) (z := 1) (pcN := 1320) jI_379_1319 rfl (by decide) rfl ?_
  refine jT_adv 1 (pcN := 1321) (LN := [(5, (0, 0)), (4, (4, 3)), (3, (4, 2)), (2, (4, 1)), (1, (4, 0)), (0, (6, 0))]) (stN := [(0, x1), (4, 0)]) (hsN := jpA_2346) (c1 := 0) (s1 := 0) (c2 := 4) (s2 := 21) (by exact rfl) ?_ (by omega) (by omega)
  refine jT_eq (LN := [(5, (0, 0)), (4, (4, 3)), (3, (4, 2)), (2, (4, 1)), (1, (4, 0)), (0, (6, 0))]) (stN := [(0, 1), (4, 0)]) (hsN := [jzA_265, jzA_266, (101, [], [0]), jgh, jgh, jgh, jgh, jgh, jgh, jgh, jgh, jgh, jgh, jzA_79, jzA_322, (100, [], jS0), (100, [], []), jzA_323, jzA_197, jgh, jgh, (101, [], [0, 0, 0, 0, 0, 0]), jgh, jgh, jgh, jgh, jgh, jgh, jgh, jgh, jzA_324, (117, [], [44, 45, 46, 47]), jgh, jgh, jgh, (100, [], (List.replicate 1613 0)), jgh, jgh, jgh, jgh, jgh, jgh, jgh, (4, [(4, 48), (1, 1)], []), jgh, (7, [(4, 49), (4, (-1)), (4, (-1))], []), jgh, jgh, (101, [], [0, 0, 0, 0, 0, 0]), (114, [], [43])]) (rfl) (by simp only [List.cons.injEq, Prod.mk.injEq, and_true, true_and] <;> ((try unfold jw); (try unfold jwl); omega)) (rfl) ?_
  refine jT_xaload_n (v := (6, 0)) (pcN := 1322) jI_379_1321 rfl rfl rfl ?_
  refine jT_xiload (v := (0, 0)) (pcN := 1324) jI_379_1322 rfl rfl rfl ?_
  refine jT_xiconst (k := 2) (pcN := 1325) jI_379_1324 rfl ?_
  refine jT_xiadd (x := 0) (y := 2) (z := 2) (pcN := 1326) jI_379_1325 rfl (by decide) rfl ?_
  refine jT_adv 1 (pcN := 1327) (LN := [(5, (0, 0)), (4, (4, 3)), (3, (4, 2)), (2, (4, 1)), (1, (4, 0)), (0, (6, 0))]) (stN := [(0, x2), (0, 1), (4, 0)]) (hsN := jpA_2346) (c1 := 0) (s1 := 0) (c2 := 4) (s2 := 21) (by exact rfl) ?_ (by omega) (by omega)
  refine jT_xaload_n (v := (6, 0)) (pcN := 1328) jI_379_1327 rfl rfl rfl ?_
  refine jT_xiload (v := (0, 0)) (pcN := 1330) jI_379_1328 rfl rfl rfl ?_
  refine jT_xiconst (k := 3) (pcN := 1331) jI_379_1330 rfl ?_
  refine jT_xiadd (x := 0) (y := 3) (z := 3) (pcN := 1332) jI_379_1331 rfl (by decide) rfl ?_
  refine jT_adv 1 (pcN := 1333) (LN := [(5, (0, 0)), (4, (4, 3)), (3, (4, 2)), (2, (4, 1)), (1, (4, 0)), (0, (6, 0))]) (stN := [(0, x3), (0, x2), (0, 1), (4, 0)]) (hsN := jpA_2346) (c1 := 0) (s1 := 0) (c2 := 4) (s2 := 21) (by exact rfl) ?_ (by omega) (by omega)
  refine jT_xaload_n (v := (4, 2)) (pcN := 1334) jI_379_1333 rfl rfl rfl ?_
  refine jT_fB [0, 2, 4, 5, 6, 7, 8, 9, 10, 11, 12, 13, 14, 30, 31, 32, 33, 34, 43, 44, 45, 46, 47, 48, 49] 50 (y := 339) (pcN := 1337) (dC := 4) (bc1 := 4) (bc2 := 21) (c1 := 0) (c2 := 0) (as := [(4, 0), (0, 1), (0, x2), (0, x3), (4, 2)]) (asC := [(4, 0), (0, 1), (0, x2), (0, x3), (4, 1)]) (LN := [(5, (0, 0)), (4, (4, 3)), (3, (4, 2)), (2, (4, 1)), (1, (4, 0)), (0, (6, 0))]) (stN := []) (hsC := jpA_2284) (hsD := [jzA_2220, (101, [], [0]), jgh, jgh, jgh, jgh, jgh, jgh, jgh, jgh, jgh, jzA_76, jzA_77, jzA_109, (117, [], [19, 20, 21, 22]), jgh, jgh, jgh, (4, [(4, 23), (1, 1)], []), jgh, (7, [(4, 24), (4, (-1)), (4, (-1))], []), jgh, jgh, (101, [], [0, 0, 0, 0, 0, 0]), (114, [], [18]), (101, [], [x2, 0, 0, 0, 0, 0]), (4, [(4, 25), (1, 1)], []), jgh, jzA_2221]) (v := (0, 0)) (st2 := [(0, 0)]) (hs2 := [jzA_2337, jzA_266, (101, [], [0]), jgh, jgh, jgh, jgh, jgh, jgh, jgh, jgh, jgh, jgh, jzA_327, jzA_322, (100, [], jS0), (100, [], []), jzA_323, jzA_197, jgh, jgh, (101, [], [0, 0, 0, 0, 0, 0]), jgh, jgh, jgh, jgh, jgh, jgh, jgh, jgh, jzA_324, (117, [], [44, 45, 46, 47]), jgh, jgh, jgh, (100, [], (List.replicate 1613 0)), jgh, jgh, jgh, jgh, jgh, jgh, jgh, (4, [(4, 48), (1, 1)], []), jgh, (7, [(4, 49), (4, (-1)), (4, (-1))], []), jgh, jgh, (101, [], [0, 0, 0, 0, 0, 0]), (114, [], [43]), (101, [], [x2, 0, 0, 0, 0, 0]), (4, [(4, 50), (1, 1)], []), jgh, jzA_2338]) (jA_339_580 (d := 0) (by omega) (by omega)) (by rfl) (by rfl) (by decide +kernel) (by rfl) (by rfl) (by omega) (by omega) (by omega) (by omega) rfl rfl ?_
  refine jT_xistore (v := (0, 0)) (LN := [(6, (0, 0)), (5, (0, 0)), (4, (4, 3)), (3, (4, 2)), (2, (4, 1)), (1, (4, 0)), (0, (6, 0))]) (pcN := 1339) jI_379_1337 rfl rfl rfl rfl ?_
  refine jT_xaload_n (v := (4, 1)) (pcN := 1340) jI_379_1339 rfl rfl rfl ?_
  refine jT_xaload_n (v := (6, 0)) (pcN := 1341) jI_379_1340 rfl rfl rfl ?_
  refine jT_xiload (v := (0, 0)) (pcN := 1343) jI_379_1341 rfl rfl rfl ?_
  refine jT_xiconst (k := 1) (pcN := 1344) jI_379_1343 rfl ?_
  refine jT_xiadd (x := 0) (y := 1) (z := 1) (pcN := 1345) jI_379_1344 rfl (by decide) rfl ?_
  refine jT_adv 1 (pcN := 1346) (LN := [(6, (0, 0)), (5, (0, 0)), (4, (4, 3)), (3, (4, 2)), (2, (4, 1)), (1, (4, 0)), (0, (6, 0))]) (stN := [(0, x1), (4, 1)]) (hsN := [jzA_2337, jzA_266, (101, [], [0]), jgh, jgh, jgh, jgh, jgh, jgh, jgh, jgh, jgh, jgh, jzA_327, jzA_322, (100, [], jS0), (100, [], []), jzA_323, jzA_197, jgh, jgh, (101, [], [0, 0, 0, 0, 0, 0]), jgh, jgh, jgh, jgh, jgh, jgh, jgh, jgh, jzA_324, (117, [], [44, 45, 46, 47]), jgh, jgh, jgh, (100, [], (List.replicate 1613 0)), jgh, jgh, jgh, jgh, jgh, jgh, jgh, (4, [(4, 48), (1, 1)], []), jgh, (7, [(4, 49), (4, (-1)), (4, (-1))], []), jgh, jgh, (101, [], [0, 0, 0, 0, 0, 0]), (114, [], [43]), (101, [], [x2, 0, 0, 0, 0, 0]), (4, [(4, 50), (1, 1)], []), jgh, jzA_2338]) (c1 := 0) (s1 := 0) (c2 := 0) (s2 := 0) (by exact rfl) ?_ (by omega) (by omega)
  refine jT_eq (LN := [(6, (0, 0)), (5, (0, 0)), (4, (4, 3)), (3, (4, 2)), (2, (4, 1)), (1, (4, 0)), (0, (6, 0))]) (stN := [(0, 1), (4, 1)]) (hsN := [jzA_2337, jzA_266, (101, [], [0]), jgh, jgh, jgh, jgh, jgh, jgh, jgh, jgh, jgh, jgh, jzA_327, jzA_322, (100, [], jS0), (100, [], []), jzA_323, jzA_197, jgh, jgh, (101, [], [0, 0, 0, 0, 0, 0]), jgh, jgh, jgh, jgh, jgh, jgh, jgh, jgh, jzA_324, (117, [], [44, 45, 46, 47]), jgh, jgh, jgh, (100, [], (List.replicate 1613 0)), jgh, jgh, jgh, jgh, jgh, jgh, jgh, (4, [(4, 48), (1, 1)], []), jgh, (7, [(4, 49), (4, (-1)), (4, (-1))], []), jgh, jgh, (101, [], [0, 0, 0, 0, 0, 0]), (114, [], [43]), (101, [], [x2, 0, 0, 0, 0, 0]), (4, [(4, 50), (1, 1)], []), jgh, jzA_2338]) (rfl) (by simp only [List.cons.injEq, Prod.mk.injEq, and_true, true_and] <;> ((try unfold jw); (try unfold jwl); omega)) (rfl) ?_
  refine jT_xaload_n (v := (6, 0)) (pcN := 1347) jI_379_1346 rfl rfl rfl ?_
  refine jT_xiload (v := (0, 0)) (pcN := 1349) jI_379_1347 rfl rfl rfl ?_
  refine jT_xiconst (k := 2) (pcN := 1350) jI_379_1349 rfl ?_
  refine jT_xiadd (x := 0) (y := 2) (z := 2) (pcN := 1351) jI_379_1350 rfl (by decide) rfl ?_
  refine jT_adv 1 (pcN := 1352) (LN := [(6, (0, 0)), (5, (0, 0)), (4, (4, 3)), (3, (4, 2)), (2, (4, 1)), (1, (4, 0)), (0, (6, 0))]) (stN := [(0, x2), (0, 1), (4, 1)]) (hsN := [jzA_2337, jzA_266, (101, [], [0]), jgh, jgh, jgh, jgh, jgh, jgh, jgh, jgh, jgh, jgh, jzA_327, jzA_322, (100, [], jS0), (100, [], []), jzA_323, jzA_197, jgh, jgh, (101, [], [0, 0, 0, 0, 0, 0]), jgh, jgh, jgh, jgh, jgh, jgh, jgh, jgh, jzA_324, (117, [], [44, 45, 46, 47]), jgh, jgh, jgh, (100, [], (List.replicate 1613 0)), jgh, jgh, jgh, jgh, jgh, jgh, jgh, (4, [(4, 48), (1, 1)], []), jgh, (7, [(4, 49), (4, (-1)), (4, (-1))], []), jgh, jgh, (101, [], [0, 0, 0, 0, 0, 0]), (114, [], [43]), (101, [], [x2, 0, 0, 0, 0, 0]), (4, [(4, 50), (1, 1)], []), jgh, jzA_2338]) (c1 := 0) (s1 := 0) (c2 := 0) (s2 := 0) (by exact rfl) ?_ (by omega) (by omega)
  refine jT_xaload_n (v := (6, 0)) (pcN := 1353) jI_379_1352 rfl rfl rfl ?_
  refine jT_xiload (v := (0, 0)) (pcN := 1355) jI_379_1353 rfl rfl rfl ?_
  refine jT_xiconst (k := 3) (pcN := 1356) jI_379_1355 rfl ?_
  refine jT_xiadd (x := 0) (y := 3) (z := 3) (pcN := 1357) jI_379_1356 rfl (by decide) rfl ?_
  refine jT_adv 1 (pcN := 1358) (LN := [(6, (0, 0)), (5, (0, 0)), (4, (4, 3)), (3, (4, 2)), (2, (4, 1)), (1, (4, 0)), (0, (6, 0))]) (stN := [(0, x3), (0, x2), (0, 1), (4, 1)]) (hsN := [jzA_2337, jzA_266, (101, [], [0]), jgh, jgh, jgh, jgh, jgh, jgh, jgh, jgh, jgh, jgh, jzA_327, jzA_322, (100, [], jS0), (100, [], []), jzA_323, jzA_197, jgh, jgh, (101, [], [0, 0, 0, 0, 0, 0]), jgh, jgh, jgh, jgh, jgh, jgh, jgh, jgh, jzA_324, (117, [], [44, 45, 46, 47]), jgh, jgh, jgh, (100, [], (List.replicate 1613 0)), jgh, jgh, jgh, jgh, jgh, jgh, jgh, (4, [(4, 48), (1, 1)], []), jgh, (7, [(4, 49), (4, (-1)), (4, (-1))], []), jgh, jgh, (101, [], [0, 0, 0, 0, 0, 0]), (114, [], [43]), (101, [], [x2, 0, 0, 0, 0, 0]), (4, [(4, 50), (1, 1)], []), jgh, jzA_2338]) (c1 := 0) (s1 := 0) (c2 := 0) (s2 := 0) (by exact rfl) ?_ (by omega) (by omega)
  refine jT_callB [1, 15, 16, 17, 18, 19, 20, 21, 22, 23, 24, 25, 26, 27, 28, 29, 35, 36, 37, 38, 39, 40, 41, 42] (y := 252) (pcN := 1361) (dC := 2) (bc1 := 0) (bc2 := 0) (c1 := 0) (c2 := 0) (as := [(4, 1), (0, 1), (0, x2), (0, x3)]) (asC := [(4, 0), (0, 1), (0, x2), (0, x3)]) (LN := [(6, (0, 0)), (5, (0, 0)), (4, (4, 3)), (3, (4, 2)), (2, (4, 1)), (1, (4, 0)), (0, (6, 0))]) (stN := []) (hsC := jpA_248) (hsD := [jzA_200, (100, [], ((((((((((((((jS0).set ((7 * x3).toNat) x2)).set ((7 * x3 + 1).toNat) 0)).set ((7 * x3 + 2).toNat) 0)).set ((7 * x3 + 3).toNat) 0)).set ((7 * x3 + 4).toNat) 0)).set ((7 * x3 + 5).toNat) 0)).set ((7 * x3 + 6).toNat) 1)), (100, [], []), jzA_196, jzA_201, jgh, jgh, (101, [], [x2, 0, 0, 0, 0, 0]), jgh, jgh, jgh, jgh, jgh, jgh, jgh, jgh, (100, [], jS0), jgh, jgh, jgh, jgh, jgh, jgh, jgh]) (v := (0, 0)) (st2 := [(0, 0)]) (hs2 := [jzA_2337, jzA_330, (101, [], [0]), jgh, jgh, jgh, jgh, jgh, jgh, jgh, jgh, jgh, jgh, jzA_327, jzA_322, (100, [], ((((((((((((((jS0).set ((7 * x3).toNat) x2)).set ((7 * x3 + 1).toNat) 0)).set ((7 * x3 + 2).toNat) 0)).set ((7 * x3 + 3).toNat) 0)).set ((7 * x3 + 4).toNat) 0)).set ((7 * x3 + 5).toNat) 0)).set ((7 * x3 + 6).toNat) 1)), (100, [], []), jzA_323, jzA_331, jgh, jgh, (101, [], [x2, 0, 0, 0, 0, 0]), jgh, jgh, jgh, jgh, jgh, jgh, jgh, jgh, jzA_324, (117, [], [44, 45, 46, 47]), jgh, jgh, jgh, (100, [], jS0), jgh, jgh, jgh, jgh, jgh, jgh, jgh, (4, [(4, 48), (1, 1)], []), jgh, (7, [(4, 49), (4, (-1)), (4, (-1))], []), jgh, jgh, (101, [], [0, 0, 0, 0, 0, 0]), (114, [], [43]), (101, [], [x2, 0, 0, 0, 0, 0]), (4, [(4, 50), (1, 1)], []), jgh, jzA_2338]) (jA_252_581 (d := 0) (by omega) (by omega)) (by rfl) (by rfl) (by rfl) (by rfl) ⟨rfl, rfl, rfl, rfl, rfl, rfl, rfl, rfl, rfl, rfl, rfl, rfl, rfl, rfl, rfl, rfl, rfl, rfl, rfl, rfl, rfl, rfl, rfl, rfl, trivial⟩ (by rfl) (by rfl) (by omega) (by show 50 ≤ 54; omega) (by omega) (by omega) rfl rfl ?_
  refine jT_xistore (v := (0, 0)) (LN := [(7, (0, 0)), (6, (0, 0)), (5, (0, 0)), (4, (4, 3)), (3, (4, 2)), (2, (4, 1)), (1, (4, 0)), (0, (6, 0))]) (pcN := 1363) jI_379_1361 rfl rfl rfl rfl ?_
  refine jT_xaload_n (v := (4, 1)) (pcN := 1364) jI_379_1363 rfl rfl rfl ?_
  refine jT_callA [1, 15, 16, 17, 18, 19, 20, 21, 22, 23, 24, 25, 26, 27, 28, 29] (y := 186) (pcN := 1367) (dC := 0) (bc1 := 0) (bc2 := 0) (c1 := 0) (c2 := 0) (as := [(4, 1)]) (asC := [(4, 0)]) (LN := [(7, (0, 0)), (6, (0, 0)), (5, (0, 0)), (4, (4, 3)), (3, (4, 2)), (2, (4, 1)), (1, (4, 0)), (0, (6, 0))]) (stN := []) (hsC := jpA_258) (ex := []) (v := (0, 0)) (st2 := [(0, 0)]) (hs2 := [jzA_2337, jzA_330, (101, [], [0]), jgh, jgh, jgh, jgh, jgh, jgh, jgh, jgh, jgh, jgh, jzA_327, jzA_322, (100, [], ((((((((((((((jS0).set ((7 * x3).toNat) x2)).set ((7 * x3 + 1).toNat) 0)).set ((7 * x3 + 2).toNat) 0)).set ((7 * x3 + 3).toNat) 0)).set ((7 * x3 + 4).toNat) 0)).set ((7 * x3 + 5).toNat) 0)).set ((7 * x3 + 6).toNat) 1)), (100, [], []), jzA_323, jzA_331, jgh, jgh, (101, [], [x2, 0, 0, 0, 0, 0]), jgh, jgh, jgh, jgh, jgh, jgh, jgh, jgh, jzA_324, (117, [], [44, 45, 46, 47]), jgh, jgh, jgh, (100, [], jS0), jgh, jgh, jgh, jgh, jgh, jgh, jgh, (4, [(4, 48), (1, 1)], []), jgh, (7, [(4, 49), (4, (-1)), (4, (-1))], []), jgh, jgh, (101, [], [0, 0, 0, 0, 0, 0]), (114, [], [43]), (101, [], [x2, 0, 0, 0, 0, 0]), (4, [(4, 50), (1, 1)], []), jgh, jzA_2338]) (jA_186_54 (d := 0)) (by rfl) (by rfl) (by rfl) (by rfl) ⟨rfl, rfl, rfl, rfl, rfl, rfl, rfl, rfl, rfl, rfl, rfl, rfl, rfl, rfl, rfl, rfl, trivial⟩ (by rfl) (by rfl) (by omega) (by show 50 ≤ 54; omega) (by omega) (by omega) rfl rfl ?_
  refine jT_xiload (v := (0, 0)) (pcN := 1369) jI_379_1367 rfl rfl rfl ?_
  refine jT_xicT (pcN := 1374) jI_379_1369 rfl (by decide +kernel) rfl ?_
  refine jT_xiload (v := (0, 0)) (pcN := 1376) jI_379_1374 rfl rfl rfl ?_
  refine jT_xifF (t := 1391) (pcN := 1379) jI_379_1376 rfl (by decide +kernel) rfl rfl ?_
  refine jT_xaload_n (v := (4, 2)) (pcN := 1380) jI_379_1379 rfl rfl rfl ?_
  refine jT_xiconst (k := 0) (pcN := 1381) jI_379_1380 rfl ?_
  refine jT_lald (x := 0) (a := 2) (j := 0) (fs := []) (X := [0]) jI_379_1381 rfl rfl rfl rfl ?_
  refine jT_eq (LN := [(7, (0, 0)), (6, (0, 0)), (5, (0, 0)), (4, (4, 3)), (3, (4, 2)), (2, (4, 1)), (1, (4, 0)), (0, (6, 0))]) (stN := [(1, 0)]) (hsN := [jzA_2337, jzA_330, (101, [], [0]), jgh, jgh, jgh, jgh, jgh, jgh, jgh, jgh, jgh, jgh, jzA_327, jzA_322, (100, [], ((((((((((((((jS0).set ((7 * x3).toNat) x2)).set ((7 * x3 + 1).toNat) 0)).set ((7 * x3 + 2).toNat) 0)).set ((7 * x3 + 3).toNat) 0)).set ((7 * x3 + 4).toNat) 0)).set ((7 * x3 + 5).toNat) 0)).set ((7 * x3 + 6).toNat) 1)), (100, [], []), jzA_323, jzA_331, jgh, jgh, (101, [], [x2, 0, 0, 0, 0, 0]), jgh, jgh, jgh, jgh, jgh, jgh, jgh, jgh, jzA_324, (117, [], [44, 45, 46, 47]), jgh, jgh, jgh, (100, [], jS0), jgh, jgh, jgh, jgh, jgh, jgh, jgh, (4, [(4, 48), (1, 1)], []), jgh, (7, [(4, 49), (4, (-1)), (4, (-1))], []), jgh, jgh, (101, [], [0, 0, 0, 0, 0, 0]), (114, [], [43]), (101, [], [x2, 0, 0, 0, 0, 0]), (4, [(4, 50), (1, 1)], []), jgh, jzA_2338]) rfl rfl rfl ?_
  refine jT_xiload (v := (0, 0)) (pcN := 1384) jI_379_1382 rfl rfl rfl ?_
  refine jT_xi2l (x := 0) (z := 0) (pcN := 1385) jI_379_1384 rfl (by decide +kernel) rfl ?_
  refine jT_lcmp (a := 0) (b := 0) (z := 0) (by rfl) (by rfl) (by decide +kernel) (by decide +kernel) (by decide) ?_
  refine jT_xifT (pcN := 1391) jI_379_1386 rfl (by decide +kernel) rfl ?_
  refine jT_xgoto (pcN := 3740) jI_379_1391 rfl ?_
  refine jT_xiinc (x := 0) (z := 5) (LN := [(5, (0, 5)), (7, (0, 0)), (6, (0, 0)), (4, (4, 3)), (3, (4, 2)), (2, (4, 1)), (1, (4, 0)), (0, (6, 0))]) (pcN := 3743) jI_379_3740 rfl rfl (by decide) rfl rfl ?_
  refine jT_xgoto (pcN := 28) jI_379_3743 rfl ?_
  refine jT_xiload (v := (0, 5)) (pcN := 30) jI_379_28 rfl rfl rfl ?_
  refine jT_xaload_n (v := (6, 0)) (pcN := 31) jI_379_30 rfl rfl rfl ?_
  refine jT_adv 1 (pcN := 32) (LN := [(5, (0, 5)), (7, (0, 0)), (6, (0, 0)), (4, (4, 3)), (3, (4, 2)), (2, (4, 1)), (1, (4, 0)), (0, (6, 0))]) (stN := [(0, 5), (0, 5)]) (hsN := [jzA_2337, jzA_330, (101, [], [0]), jgh, jgh, jgh, jgh, jgh, jgh, jgh, jgh, jgh, jgh, jzA_327, jzA_322, (100, [], ((((((((((((((jS0).set ((7 * x3).toNat) x2)).set ((7 * x3 + 1).toNat) 0)).set ((7 * x3 + 2).toNat) 0)).set ((7 * x3 + 3).toNat) 0)).set ((7 * x3 + 4).toNat) 0)).set ((7 * x3 + 5).toNat) 0)).set ((7 * x3 + 6).toNat) 1)), (100, [], []), jzA_323, jzA_331, jgh, jgh, (101, [], [x2, 0, 0, 0, 0, 0]), jgh, jgh, jgh, jgh, jgh, jgh, jgh, jgh, jzA_324, (117, [], [44, 45, 46, 47]), jgh, jgh, jgh, (100, [], jS0), jgh, jgh, jgh, jgh, jgh, jgh, jgh, (4, [(4, 48), (1, 1)], []), jgh, (7, [(4, 49), (4, (-1)), (4, (-1))], []), jgh, jgh, (101, [], [0, 0, 0, 0, 0, 0]), (114, [], [43]), (101, [], [x2, 0, 0, 0, 0, 0]), (4, [(4, 50), (1, 1)], []), jgh, jzA_2338]) (c1 := 0) (s1 := 0) (c2 := 0) (s2 := 0) (by exact rfl) ?_ (by omega) (by omega)
  refine jT_xiconst (k := 5) (pcN := 33) jI_379_32 rfl ?_
  refine jT_xisub (x := 5) (y := 5) (z := 0) (pcN := 34) jI_379_33 rfl (by decide) rfl ?_
  refine jT_xicT (pcN := 3746) jI_379_34 rfl (by decide +kernel) rfl ?_
  refine jT_xiconst (k := 1) (pcN := 3747) jI_379_3746 rfl ?_
  exact jT_ret rfl (by decide) (by show 50 ≤ 54; decide) (by omega) (by omega) ⟨rfl, rfl⟩
def jpA_2347 : List JC := [jzA_2337, jzA_266, (101, [], [0]), jgh, jgh, jgh, jgh, jgh, jgh, jgh, jgh, jgh, jgh, jzA_327, jzA_322, (100, [], jS0), (100, [], []), jzA_323, jzA_197, jgh, jgh, (101, [], [0, 0, 0, 0, 0, 0]), jgh, jgh, jgh, jgh, jgh, jgh, jgh, jgh, jzA_324, (117, [], [44, 45, 46, 47]), jgh, jgh, jgh, (100, [], (List.replicate 1613 0)), jgh, jgh, jgh, jgh, jgh, jgh, jgh, (4, [(4, 48), (1, 1)], []), jgh, (7, [(4, 49), (4, (-1)), (4, (-1))], []), jgh, jgh, (101, [], [0, 0, 0, 0, 0, 0]), (114, [], [43]), (101, [], [0, 0, 0, 0, 0, 0]), (4, [(4, 50), (1, 1)], []), jgh, jzA_2338]
set_option maxRecDepth 100000 in
theorem jL_13_7 {d : Nat} {x0 x1 x2 x3 x4 : Int} (h_x0 : (-2147483648) ≤ x0 ∧ x0 ≤ 2147483647) (h_x1 : 1 ≤ x1 ∧ x1 ≤ 1) (h_x2 : 0 ≤ x2 ∧ x2 ≤ 0) (h_x3 : 0 ≤ x3 ∧ x3 ≤ 7) (h_x4 : (-2147483648) ≤ x4 ∧ x4 ≤ 2147483647) : jT [x0, x1, x2, x3, x4] (d + 5) 379 50 1314 [(5, (0, 0)), (4, (4, 3)), (3, (4, 2)), (2, (4, 1)), (1, (4, 0)), (0, (6, 0))] [] jpA_2346 4 21 (fun k v hsN => k = 0 ∧ v = (0, 1)) := by
  refine jT_xaload_n (v := (4, 0)) (pcN := 1315) jI_379_1314 rfl rfl rfl ?_
  refine jT_xaload_n (v := (6, 0)) (pcN := 1316) jI_379_1315 rfl rfl rfl ?_
  refine jT_xiload (v := (0, 0)) (pcN := 1318) jI_379_1316 rfl rfl rfl ?_
  refine jT_xiconst (k := 1) (pcN := 1319) jI_379_1318 rfl ?_
  refine jT_xiadd (x := 0) (y := 1) (z := 1) (pcN := 1320) jI_379_1319 rfl (by decide) rfl ?_
  refine jT_adv 1 (pcN := 1321) (LN := [(5, (0, 0)), (4, (4, 3)), (3, (4, 2)), (2, (4, 1)), (1, (4, 0)), (0, (6, 0))]) (stN := [(0, x1), (4, 0)]) (hsN := jpA_2346) (c1 := 0) (s1 := 0) (c2 := 4) (s2 := 21) (by exact rfl) ?_ (by omega) (by omega)
  refine jT_eq (LN := [(5, (0, 0)), (4, (4, 3)), (3, (4, 2)), (2, (4, 1)), (1, (4, 0)), (0, (6, 0))]) (stN := [(0, 1), (4, 0)]) (hsN := [jzA_265, jzA_266, (101, [], [0]), jgh, jgh, jgh, jgh, jgh, jgh, jgh, jgh, jgh, jgh, jzA_79, jzA_322, (100, [], jS0), (100, [], []), jzA_323, jzA_197, jgh, jgh, (101, [], [0, 0, 0, 0, 0, 0]), jgh, jgh, jgh, jgh, jgh, jgh, jgh, jgh, jzA_324, (117, [], [44, 45, 46, 47]), jgh, jgh, jgh, (100, [], (List.replicate 1613 0)), jgh, jgh, jgh, jgh, jgh, jgh, jgh, (4, [(4, 48), (1, 1)], []), jgh, (7, [(4, 49), (4, (-1)), (4, (-1))], []), jgh, jgh, (101, [], [0, 0, 0, 0, 0, 0]), (114, [], [43])]) (rfl) (by simp only [List.cons.injEq, Prod.mk.injEq, and_true, true_and] <;> ((try unfold jw); (try unfold jwl); omega)) (rfl) ?_
  refine jT_xaload_n (v := (6, 0)) (pcN := 1322) jI_379_1321 rfl rfl rfl ?_
  refine jT_xiload (v := (0, 0)) (pcN := 1324) jI_379_1322 rfl rfl rfl ?_
  refine jT_xiconst (k := 2) (pcN := 1325) jI_379_1324 rfl ?_
  refine jT_xiadd (x := 0) (y := 2) (z := 2) (pcN := 1326) jI_379_1325 rfl (by decide) rfl ?_
  refine jT_adv 1 (pcN := 1327) (LN := [(5, (0, 0)), (4, (4, 3)), (3, (4, 2)), (2, (4, 1)), (1, (4, 0)), (0, (6, 0))]) (stN := [(0, x2), (0, 1), (4, 0)]) (hsN := jpA_2346) (c1 := 0) (s1 := 0) (c2 := 4) (s2 := 21) (by exact rfl) ?_ (by omega) (by omega)
  refine jT_eq (LN := [(5, (0, 0)), (4, (4, 3)), (3, (4, 2)), (2, (4, 1)), (1, (4, 0)), (0, (6, 0))]) (stN := [(0, 0), (0, 1), (4, 0)]) (hsN := [jzA_265, jzA_266, (101, [], [0]), jgh, jgh, jgh, jgh, jgh, jgh, jgh, jgh, jgh, jgh, jzA_79, jzA_322, (100, [], jS0), (100, [], []), jzA_323, jzA_197, jgh, jgh, (101, [], [0, 0, 0, 0, 0, 0]), jgh, jgh, jgh, jgh, jgh, jgh, jgh, jgh, jzA_324, (117, [], [44, 45, 46, 47]), jgh, jgh, jgh, (100, [], (List.replicate 1613 0)), jgh, jgh, jgh, jgh, jgh, jgh, jgh, (4, [(4, 48), (1, 1)], []), jgh, (7, [(4, 49), (4, (-1)), (4, (-1))], []), jgh, jgh, (101, [], [0, 0, 0, 0, 0, 0]), (114, [], [43])]) (rfl) (by simp only [List.cons.injEq, Prod.mk.injEq, and_true, true_and] <;> ((try unfold jw); (try unfold jwl); omega)) (rfl) ?_
  refine jT_xaload_n (v := (6, 0)) (pcN := 1328) jI_379_1327 rfl rfl rfl ?_
  refine jT_xiload (v := (0, 0)) (pcN := 1330) jI_379_1328 rfl rfl rfl ?_
  refine jT_xiconst (k := 3) (pcN := 1331) jI_379_1330 rfl ?_
  refine jT_xiadd (x := 0) (y := 3) (z := 3) (pcN := 1332) jI_379_1331 rfl (by decide) rfl ?_
  refine jT_adv 1 (pcN := 1333) (LN := [(5, (0, 0)), (4, (4, 3)), (3, (4, 2)), (2, (4, 1)), (1, (4, 0)), (0, (6, 0))]) (stN := [(0, x3), (0, 0), (0, 1), (4, 0)]) (hsN := jpA_2346) (c1 := 0) (s1 := 0) (c2 := 4) (s2 := 21) (by exact rfl) ?_ (by omega) (by omega)
  refine jT_xaload_n (v := (4, 2)) (pcN := 1334) jI_379_1333 rfl rfl rfl ?_
  refine jT_fB [0, 2, 4, 5, 6, 7, 8, 9, 10, 11, 12, 13, 14, 30, 31, 32, 33, 34, 43, 44, 45, 46, 47, 48, 49] 50 (y := 339) (pcN := 1337) (dC := 4) (bc1 := 4) (bc2 := 21) (c1 := 0) (c2 := 0) (as := [(4, 0), (0, 1), (0, 0), (0, x3), (4, 2)]) (asC := [(4, 0), (0, 1), (0, 0), (0, x3), (4, 1)]) (LN := [(5, (0, 0)), (4, (4, 3)), (3, (4, 2)), (2, (4, 1)), (1, (4, 0)), (0, (6, 0))]) (stN := []) (hsC := jpA_2284) (hsD := jpA_2288) (v := (0, 0)) (st2 := [(0, 0)]) (hs2 := jpA_2347) (jA_339_583 (d := 0) (by omega)) (by rfl) (by rfl) (by decide +kernel) (by rfl) (by rfl) (by omega) (by omega) (by omega) (by omega) rfl (by decide +kernel) ?_
  refine jT_xistore (v := (0, 0)) (LN := [(6, (0, 0)), (5, (0, 0)), (4, (4, 3)), (3, (4, 2)), (2, (4, 1)), (1, (4, 0)), (0, (6, 0))]) (pcN := 1339) jI_379_1337 rfl rfl rfl rfl ?_
  refine jT_xaload_n (v := (4, 1)) (pcN := 1340) jI_379_1339 rfl rfl rfl ?_
  refine jT_xaload_n (v := (6, 0)) (pcN := 1341) jI_379_1340 rfl rfl rfl ?_
  refine jT_xiload (v := (0, 0)) (pcN := 1343) jI_379_1341 rfl rfl rfl ?_
  refine jT_xiconst (k := 1) (pcN := 1344) jI_379_1343 rfl ?_
  refine jT_xiadd (x := 0) (y := 1) (z := 1) (pcN := 1345) jI_379_1344 rfl (by decide) rfl ?_
  refine jT_adv 1 (pcN := 1346) (LN := [(6, (0, 0)), (5, (0, 0)), (4, (4, 3)), (3, (4, 2)), (2, (4, 1)), (1, (4, 0)), (0, (6, 0))]) (stN := [(0, x1), (4, 1)]) (hsN := jpA_2347) (c1 := 0) (s1 := 0) (c2 := 0) (s2 := 0) (by exact rfl) ?_ (by omega) (by omega)
  refine jT_eq (LN := [(6, (0, 0)), (5, (0, 0)), (4, (4, 3)), (3, (4, 2)), (2, (4, 1)), (1, (4, 0)), (0, (6, 0))]) (stN := [(0, 1), (4, 1)]) (hsN := [jzA_2337, jzA_266, (101, [], [0]), jgh, jgh, jgh, jgh, jgh, jgh, jgh, jgh, jgh, jgh, jzA_327, jzA_322, (100, [], jS0), (100, [], []), jzA_323, jzA_197, jgh, jgh, (101, [], [0, 0, 0, 0, 0, 0]), jgh, jgh, jgh, jgh, jgh, jgh, jgh, jgh, jzA_324, (117, [], [44, 45, 46, 47]), jgh, jgh, jgh, (100, [], (List.replicate 1613 0)), jgh, jgh, jgh, jgh, jgh, jgh, jgh, (4, [(4, 48), (1, 1)], []), jgh, (7, [(4, 49), (4, (-1)), (4, (-1))], []), jgh, jgh, (101, [], [0, 0, 0, 0, 0, 0]), (114, [], [43]), (101, [], [0, 0, 0, 0, 0, 0]), (4, [(4, 50), (1, 1)], []), jgh, jzA_2338]) (rfl) (by simp only [List.cons.injEq, Prod.mk.injEq, and_true, true_and] <;> ((try unfold jw); (try unfold jwl); omega)) (rfl) ?_
  refine jT_xaload_n (v := (6, 0)) (pcN := 1347) jI_379_1346 rfl rfl rfl ?_
  refine jT_xiload (v := (0, 0)) (pcN := 1349) jI_379_1347 rfl rfl rfl ?_
  refine jT_xiconst (k := 2) (pcN := 1350) jI_379_1349 rfl ?_
  refine jT_xiadd (x := 0) (y := 2) (z := 2) (pcN := 1351) jI_379_1350 rfl (by decide) rfl ?_
  refine jT_adv 1 (pcN := 1352) (LN := [(6, (0, 0)), (5, (0, 0)), (4, (4, 3)), (3, (4, 2)), (2, (4, 1)), (1, (4, 0)), (0, (6, 0))]) (stN := [(0, x2), (0, 1), (4, 1)]) (hsN := jpA_2347) (c1 := 0) (s1 := 0) (c2 := 0) (s2 := 0) (by exact rfl) ?_ (by omega) (by omega)
  refine jT_eq (LN := [(6, (0, 0)), (5, (0, 0)), (4, (4, 3)), (3, (4, 2)), (2, (4, 1)), (1, (4, 0)), (0, (6, 0))]) (stN := [(0, 0), (0, 1), (4, 1)]) (hsN := [jzA_2337, jzA_266, (101, [], [0]), jgh, jgh, jgh, jgh, jgh, jgh, jgh, jgh, jgh, jgh, jzA_327, jzA_322, (100, [], jS0), (100, [], []), jzA_323, jzA_197, jgh, jgh, (101, [], [0, 0, 0, 0, 0, 0]), jgh, jgh, jgh, jgh, jgh, jgh, jgh, jgh, jzA_324, (117, [], [44, 45, 46, 47]), jgh, jgh, jgh, (100, [], (List.replicate 1613 0)), jgh, jgh, jgh, jgh, jgh, jgh, jgh, (4, [(4, 48), (1, 1)], []), jgh, (7, [(4, 49), (4, (-1)), (4, (-1))], []), jgh, jgh, (101, [], [0, 0, 0, 0, 0, 0]), (114, [], [43]), (101, [], [0, 0, 0, 0, 0, 0]), (4, [(4, 50), (1, 1)], []), jgh, jzA_2338]) (rfl) (by simp only [List.cons.injEq, Prod.mk.injEq, and_true, true_and] <;> ((try unfold jw); (try unfold jwl); omega)) (rfl) ?_
  refine jT_xaload_n (v := (6, 0)) (pcN := 1353) jI_379_1352 rfl rfl rfl ?_
  refine jT_xiload (v := (0, 0)) (pcN := 1355) jI_379_1353 rfl rfl rfl ?_
  refine jT_xiconst (k := 3) (pcN := 1356) jI_379_1355 rfl ?_
  refine jT_xiadd (x := 0) (y := 3) (z := 3) (pcN := 1357) jI_379_1356 rfl (by decide) rfl ?_
  refine jT_adv 1 (pcN := 1358) (LN := [(6, (0, 0)), (5, (0, 0)), (4, (4, 3)), (3, (4, 2)), (2, (4, 1)), (1, (4, 0)), (0, (6, 0))]) (stN := [(0, x3), (0, 0), (0, 1), (4, 1)]) (hsN := jpA_2347) (c1 := 0) (s1 := 0) (c2 := 0) (s2 := 0) (by exact rfl) ?_ (by omega) (by omega)
  refine jT_fB [1, 15, 16, 17, 18, 19, 20, 21, 22, 23, 24, 25, 26, 27, 28, 29, 35, 36, 37, 38, 39, 40, 41, 42] 54 (y := 252) (pcN := 1361) (dC := 2) (bc1 := 0) (bc2 := 0) (c1 := 0) (c2 := 0) (as := [(4, 1), (0, 1), (0, 0), (0, x3)]) (asC := [(4, 0), (0, 1), (0, 0), (0, x3)]) (LN := [(6, (0, 0)), (5, (0, 0)), (4, (4, 3)), (3, (4, 2)), (2, (4, 1)), (1, (4, 0)), (0, (6, 0))]) (stN := []) (hsC := jpA_248) (hsD := [jzA_200, (100, [], ((((((((((((((jS0).set ((7 * x3).toNat) 0)).set ((7 * x3 + 1).toNat) 0)).set ((7 * x3 + 2).toNat) 0)).set ((7 * x3 + 3).toNat) 0)).set ((7 * x3 + 4).toNat) 0)).set ((7 * x3 + 5).toNat) 0)).set ((7 * x3 + 6).toNat) 1)), (100, [], []), jzA_196, jzA_201, jgh, jgh, (101, [], [0, 0, 0, 0, 0, 0]), jgh, jgh, jgh, jgh, jgh, jgh, jgh, jgh, (100, [], jS0), jgh, jgh, jgh, jgh, jgh, jgh, jgh]) (v := (0, 0)) (st2 := [(0, 0)]) (hs2 := [jzA_2337, jzA_330, (101, [], [0]), jgh, jgh, jgh, jgh, jgh, jgh, jgh, jgh, jgh, jgh, jzA_327, jzA_322, (100, [], ((((((((((((((jS0).set ((7 * x3).toNat) 0)).set ((7 * x3 + 1).toNat) 0)).set ((7 * x3 + 2).toNat) 0)).set ((7 * x3 + 3).toNat) 0)).set ((7 * x3 + 4).toNat) 0)).set ((7 * x3 + 5).toNat) 0)).set ((7 * x3 + 6).toNat) 1)), (100, [], []), jzA_323, jzA_331, jgh, jgh, (101, [], [0, 0, 0, 0, 0, 0]), jgh, jgh, jgh, jgh, jgh, jgh, jgh, jgh, jzA_324, (117, [], [44, 45, 46, 47]), jgh, jgh, jgh, (100, [], jS0), jgh, jgh, jgh, jgh, jgh, jgh, jgh, (4, [(4, 48), (1, 1)], []), jgh, (7, [(4, 49), (4, (-1)), (4, (-1))], []), jgh, jgh, (101, [], [0, 0, 0, 0, 0, 0]), (114, [], [43]), (101, [], [0, 0, 0, 0, 0, 0]), (4, [(4, 50), (1, 1)], []), jgh, jzA_2338]) (jA_252_584 (d := 0) (by omega)) (by rfl) (by rfl) (by decide +kernel) (by rfl) (by rfl) (by omega) (by omega) (by omega) (by omega) rfl rfl ?_
  refine jT_xistore (v := (0, 0)) (LN := [(7, (0, 0)), (6, (0, 0)), (5, (0, 0)), (4, (4, 3)), (3, (4, 2)), (2, (4, 1)), (1, (4, 0)), (0, (6, 0))]) (pcN := 1363) jI_379_1361 rfl rfl rfl rfl ?_
  refine jT_xaload_n (v := (4, 1)) (pcN := 1364) jI_379_1363 rfl rfl rfl ?_
  refine jT_callA [1, 15, 16, 17, 18, 19, 20, 21, 22, 23, 24, 25, 26, 27, 28, 29] (y := 186) (pcN := 1367) (dC := 0) (bc1 := 0) (bc2 := 0) (c1 := 0) (c2 := 0) (as := [(4, 1)]) (asC := [(4, 0)]) (LN := [(7, (0, 0)), (6, (0, 0)), (5, (0, 0)), (4, (4, 3)), (3, (4, 2)), (2, (4, 1)), (1, (4, 0)), (0, (6, 0))]) (stN := []) (hsC := jpA_258) (ex := []) (v := (0, 0)) (st2 := [(0, 0)]) (hs2 := [jzA_2337, jzA_330, (101, [], [0]), jgh, jgh, jgh, jgh, jgh, jgh, jgh, jgh, jgh, jgh, jzA_327, jzA_322, (100, [], ((((((((((((((jS0).set ((7 * x3).toNat) 0)).set ((7 * x3 + 1).toNat) 0)).set ((7 * x3 + 2).toNat) 0)).set ((7 * x3 + 3).toNat) 0)).set ((7 * x3 + 4).toNat) 0)).set ((7 * x3 + 5).toNat) 0)).set ((7 * x3 + 6).toNat) 1)), (100, [], []), jzA_323, jzA_331, jgh, jgh, (101, [], [0, 0, 0, 0, 0, 0]), jgh, jgh, jgh, jgh, jgh, jgh, jgh, jgh, jzA_324, (117, [], [44, 45, 46, 47]), jgh, jgh, jgh, (100, [], jS0), jgh, jgh, jgh, jgh, jgh, jgh, jgh, (4, [(4, 48), (1, 1)], []), jgh, (7, [(4, 49), (4, (-1)), (4, (-1))], []), jgh, jgh, (101, [], [0, 0, 0, 0, 0, 0]), (114, [], [43]), (101, [], [0, 0, 0, 0, 0, 0]), (4, [(4, 50), (1, 1)], []), jgh, jzA_2338]) (jA_186_54 (d := 0)) (by rfl) (by rfl) (by rfl) (by rfl) ⟨rfl, rfl, rfl, rfl, rfl, rfl, rfl, rfl, rfl, rfl, rfl, rfl, rfl, rfl, rfl, rfl, trivial⟩ (by rfl) (by rfl) (by omega) (by show 50 ≤ 54; omega) (by omega) (by omega) rfl rfl ?_
  refine jT_xiload (v := (0, 0)) (pcN := 1369) jI_379_1367 rfl rfl rfl ?_
  refine jT_xicT (pcN := 1374) jI_379_1369 rfl (by decide +kernel) rfl ?_
  refine jT_xiload (v := (0, 0)) (pcN := 1376) jI_379_1374 rfl rfl rfl ?_
  refine jT_xifF (t := 1391) (pcN := 1379) jI_379_1376 rfl (by decide +kernel) rfl rfl ?_
  refine jT_xaload_n (v := (4, 2)) (pcN := 1380) jI_379_1379 rfl rfl rfl ?_
  refine jT_xiconst (k := 0) (pcN := 1381) jI_379_1380 rfl ?_
  refine jT_lald (x := 0) (a := 2) (j := 0) (fs := []) (X := [0]) jI_379_1381 rfl rfl rfl rfl ?_
  refine jT_eq (LN := [(7, (0, 0)), (6, (0, 0)), (5, (0, 0)), (4, (4, 3)), (3, (4, 2)), (2, (4, 1)), (1, (4, 0)), (0, (6, 0))]) (stN := [(1, 0)]) (hsN := [jzA_2337, jzA_330, (101, [], [0]), jgh, jgh, jgh, jgh, jgh, jgh, jgh, jgh, jgh, jgh, jzA_327, jzA_322, (100, [], ((((((((((((((jS0).set ((7 * x3).toNat) 0)).set ((7 * x3 + 1).toNat) 0)).set ((7 * x3 + 2).toNat) 0)).set ((7 * x3 + 3).toNat) 0)).set ((7 * x3 + 4).toNat) 0)).set ((7 * x3 + 5).toNat) 0)).set ((7 * x3 + 6).toNat) 1)), (100, [], []), jzA_323, jzA_331, jgh, jgh, (101, [], [0, 0, 0, 0, 0, 0]), jgh, jgh, jgh, jgh, jgh, jgh, jgh, jgh, jzA_324, (117, [], [44, 45, 46, 47]), jgh, jgh, jgh, (100, [], jS0), jgh, jgh, jgh, jgh, jgh, jgh, jgh, (4, [(4, 48), (1, 1)], []), jgh, (7, [(4, 49), (4, (-1)), (4, (-1))], []), jgh, jgh, (101, [], [0, 0, 0, 0, 0, 0]), (114, [], [43]), (101, [], [0, 0, 0, 0, 0, 0]), (4, [(4, 50), (1, 1)], []), jgh, jzA_2338]) rfl rfl rfl ?_
  refine jT_xiload (v := (0, 0)) (pcN := 1384) jI_379_1382 rfl rfl rfl ?_
  refine jT_xi2l (x := 0) (z := 0) (pcN := 1385) jI_379_1384 rfl (by decide +kernel) rfl ?_
  refine jT_lcmp (a := 0) (b := 0) (z := 0) (by rfl) (by rfl) (by decide +kernel) (by decide +kernel) (by decide) ?_
  refine jT_xifT (pcN := 1391) jI_379_1386 rfl (by decide +kernel) rfl ?_
  refine jT_xgoto (pcN := 3740) jI_379_1391 rfl ?_
  refine jT_xiinc (x := 0) (z := 5) (LN := [(5, (0, 5)), (7, (0, 0)), (6, (0, 0)), (4, (4, 3)), (3, (4, 2)), (2, (4, 1)), (1, (4, 0)), (0, (6, 0))]) (pcN := 3743) jI_379_3740 rfl rfl (by decide) rfl rfl ?_
  refine jT_xgoto (pcN := 28) jI_379_3743 rfl ?_
  refine jT_xiload (v := (0, 5)) (pcN := 30) jI_379_28 rfl rfl rfl ?_
  refine jT_xaload_n (v := (6, 0)) (pcN := 31) jI_379_30 rfl rfl rfl ?_
  refine jT_adv 1 (pcN := 32) (LN := [(5, (0, 5)), (7, (0, 0)), (6, (0, 0)), (4, (4, 3)), (3, (4, 2)), (2, (4, 1)), (1, (4, 0)), (0, (6, 0))]) (stN := [(0, 5), (0, 5)]) (hsN := [jzA_2337, jzA_330, (101, [], [0]), jgh, jgh, jgh, jgh, jgh, jgh, jgh, jgh, jgh, jgh, jzA_327, jzA_322, (100, [], ((((((((((((((jS0).set ((7 * x3).toNat) 0)).set ((7 * x3 + 1).toNat) 0)).set ((7 * x3 + 2).toNat) 0)).set ((7 * x3 + 3).toNat) 0)).set ((7 * x3 + 4).toNat) 0)).set ((7 * x3 + 5).toNat) 0)).set ((7 * x3 + 6).toNat) 1)), (100, [], []), jzA_323, jzA_331, jgh, jgh, (101, [], [0, 0, 0, 0, 0, 0]), jgh, jgh, jgh, jgh, jgh, jgh, jgh, jgh, jzA_324, (117, [], [44, 45, 46, 47]), jgh, jgh, jgh, (100, [], jS0), jgh, jgh, jgh, jgh, jgh, jgh, jgh, (4, [(4, 48), (1, 1)], []), jgh, (7, [(4, 49), (4, (-1)), (4, (-1))], []), jgh, jgh, (101, [], [0, 0, 0, 0, 0, 0]), (114, [], [43]), (101, [], [0, 0, 0, 0, 0, 0]), (4, [(4, 50), (1, 1)], []), jgh, jzA_2338]) (c1 := 0) (s1 := 0) (c2 := 0) (s2 := 0) (by exact rfl) ?_ (by omega) (by omega)
  refine jT_xiconst (k := 5) (pcN := 33) jI_379_32 rfl ?_
  refine jT_xisub (x := 5) (y := 5) (z := 0) (pcN := 34) jI_379_33 rfl (by decide) rfl ?_
  refine jT_xicT (pcN := 3746) jI_379_34 rfl (by decide +kernel) rfl ?_
  refine jT_xiconst (k := 1) (pcN := 3747) jI_379_3746 rfl ?_
  exact jT_ret rfl (by decide) (by show 50 ≤ 54; decide) (by omega) (by omega) ⟨rfl, rfl⟩
set_option maxRecDepth 100000 in
theorem jL_13_8 {d : Nat} {x0 x1 x2 x3 x4 : Int} (h_x0 : (-2147483648) ≤ x0 ∧ x0 ≤ 2147483647) (h_x1 : 1 ≤ x1 ∧ x1 ≤ 1) (h_x2 : 1 ≤ x2 ∧ x2 ≤ 200) (h_x3 : 0 ≤ x3 ∧ x3 ≤ 7) (h_x4 : (-2147483648) ≤ x4 ∧ x4 ≤ 2147483647) : jT [x0, x1, x2, x3, x4] (d + 5) 379 50 1314 [(5, (0, 0)), (4, (4, 3)), (3, (4, 2)), (2, (4, 1)), (1, (4, 0)), (0, (6, 0))] [] jpA_2346 4 21 (fun k v hsN => k = 0 ∧ v = (0, 1)) := by
  refine jT_xaload_n (v := (4, 0)) (pcN := 1315) jI_379_1314 rfl rfl rfl ?_
  refine jT_xaload_n (v := (6, 0)) (pcN := 1316) jI_379_1315 rfl rfl rfl ?_
  refine jT_xiload (v := (0, 0)) (pcN := 1318) jI_379_1316 rfl rfl rfl ?_
  refine jT_xiconst (k := 1) (pcN := 1319) jI_379_1318 rfl ?_
  refine jT_xiadd (x := 0) (y := 1) (z := 1) (pcN := 1320) jI_379_1319 rfl (by decide) rfl ?_
  refine jT_adv 1 (pcN := 1321) (LN := [(5, (0, 0)), (4, (4, 3)), (3, (4, 2)), (2, (4, 1)), (1, (4, 0)), (0, (6, 0))]) (stN := [(0, x1), (4, 0)]) (hsN := jpA_2346) (c1 := 0) (s1 := 0) (c2 := 4) (s2 := 21) (by exact rfl) ?_ (by omega) (by omega)
  refine jT_eq (LN := [(5, (0, 0)), (4, (4, 3)), (3, (4, 2)), (2, (4, 1)), (1, (4, 0)), (0, (6, 0))]) (stN := [(0, 1), (4, 0)]) (hsN := [jzA_265, jzA_266, (101, [], [0]), jgh, jgh, jgh, jgh, jgh, jgh, jgh, jgh, jgh, jgh, jzA_79, jzA_322, (100, [], jS0), (100, [], []), jzA_323, jzA_197, jgh, jgh, (101, [], [0, 0, 0, 0, 0, 0]), jgh, jgh, jgh, jgh, jgh, jgh, jgh, jgh, jzA_324, (117, [], [44, 45, 46, 47]), jgh, jgh, jgh, (100, [], (List.replicate 1613 0)), jgh, jgh, jgh, jgh, jgh, jgh, jgh, (4, [(4, 48), (1, 1)], []), jgh, (7, [(4, 49), (4, (-1)), (4, (-1))], []), jgh, jgh, (101, [], [0, 0, 0, 0, 0, 0]), (114, [], [43])]) (rfl) (by simp only [List.cons.injEq, Prod.mk.injEq, and_true, true_and] <;> ((try unfold jw); (try unfold jwl); omega)) (rfl) ?_
  refine jT_xaload_n (v := (6, 0)) (pcN := 1322) jI_379_1321 rfl rfl rfl ?_
  refine jT_xiload (v := (0, 0)) (pcN := 1324) jI_379_1322 rfl rfl rfl ?_
  refine jT_xiconst (k := 2) (pcN := 1325) jI_379_1324 rfl ?_
  refine jT_xiadd (x := 0) (y := 2) (z := 2) (pcN := 1326) jI_379_1325 rfl (by decide) rfl ?_
  refine jT_adv 1 (pcN := 1327) (LN := [(5, (0, 0)), (4, (4, 3)), (3, (4, 2)), (2, (4, 1)), (1, (4, 0)), (0, (6, 0))]) (stN := [(0, x2), (0, 1), (4, 0)]) (hsN := jpA_2346) (c1 := 0) (s1 := 0) (c2 := 4) (s2 := 21) (by exact rfl) ?_ (by omega) (by omega)
  refine jT_xaload_n (v := (6, 0)) (pcN := 1328) jI_379_1327 rfl rfl rfl ?_
  refine jT_xiload (v := (0, 0)) (pcN := 1330) jI_379_1328 rfl rfl rfl ?_
  refine jT_xiconst (k := 3) (pcN := 1331) jI_379_1330 rfl ?_
  refine jT_xiadd (x := 0) (y := 3) (z := 3) (pcN := 1332) jI_379_1331 rfl (by decide) rfl ?_
  refine jT_adv 1 (pcN := 1333) (LN := [(5, (0, 0)), (4, (4, 3)), (3, (4, 2)), (2, (4, 1)), (1, (4, 0)), (0, (6, 0))]) (stN := [(0, x3), (0, x2), (0, 1), (4, 0)]) (hsN := jpA_2346) (c1 := 0) (s1 := 0) (c2 := 4) (s2 := 21) (by exact rfl) ?_ (by omega) (by omega)
  refine jT_xaload_n (v := (4, 2)) (pcN := 1334) jI_379_1333 rfl rfl rfl ?_
  refine jT_fB [0, 2, 4, 5, 6, 7, 8, 9, 10, 11, 12, 13, 14, 30, 31, 32, 33, 34, 43, 44, 45, 46, 47, 48, 49] 50 (y := 339) (pcN := 1337) (dC := 4) (bc1 := 4) (bc2 := 21) (c1 := 0) (c2 := 0) (as := [(4, 0), (0, 1), (0, x2), (0, x3), (4, 2)]) (asC := [(4, 0), (0, 1), (0, x2), (0, x3), (4, 1)]) (LN := [(5, (0, 0)), (4, (4, 3)), (3, (4, 2)), (2, (4, 1)), (1, (4, 0)), (0, (6, 0))]) (stN := []) (hsC := jpA_2284) (hsD := [jzA_2220, (101, [], [0]), jgh, jgh, jgh, jgh, jgh, jgh, jgh, jgh, jgh, jzA_76, jzA_77, jzA_109, (117, [], [19, 20, 21, 22]), jgh, jgh, jgh, (4, [(4, 23), (1, 1)], []), jgh, (7, [(4, 24), (4, (-1)), (4, (-1))], []), jgh, jgh, (101, [], [0, 0, 0, 0, 0, 0]), (114, [], [18]), (101, [], [x2, 0, 0, 0, 0, 0]), (4, [(4, 25), (1, 1)], []), jgh, jzA_2221]) (v := (0, 0)) (st2 := [(0, 0)]) (hs2 := [jzA_2337, jzA_266, (101, [], [0]), jgh, jgh, jgh, jgh, jgh, jgh, jgh, jgh, jgh, jgh, jzA_327, jzA_322, (100, [], jS0), (100, [], []), jzA_323, jzA_197, jgh, jgh, (101, [], [0, 0, 0, 0, 0, 0]), jgh, jgh, jgh, jgh, jgh, jgh, jgh, jgh, jzA_324, (117, [], [44, 45, 46, 47]), jgh, jgh, jgh, (100, [], (List.replicate 1613 0)), jgh, jgh, jgh, jgh, jgh, jgh, jgh, (4, [(4, 48), (1, 1)], []), jgh, (7, [(4, 49), (4, (-1)), (4, (-1))], []), jgh, jgh, (101, [], [0, 0, 0, 0, 0, 0]), (114, [], [43]), (101, [], [x2, 0, 0, 0, 0, 0]), (4, [(4, 50), (1, 1)], []), jgh, jzA_2338]) (jA_339_586 (d := 0) (by omega) (by omega)) (by rfl) (by rfl) (by decide +kernel) (by rfl) (by rfl) (by omega) (by omega) (by omega) (by omega) rfl rfl ?_
  refine jT_xistore (v := (0, 0)) (LN := [(6, (0, 0)), (5, (0, 0)), (4, (4, 3)), (3, (4, 2)), (2, (4, 1)), (1, (4, 0)), (0, (6, 0))]) (pcN := 1339) jI_379_1337 rfl rfl rfl rfl ?_
  refine jT_xaload_n (v := (4, 1)) (pcN := 1340) jI_379_1339 rfl rfl rfl ?_
  refine jT_xaload_n (v := (6, 0)) (pcN := 1341) jI_379_1340 rfl rfl rfl ?_
  refine jT_xiload (v := (0, 0)) (pcN := 1343) jI_379_1341 rfl rfl rfl ?_
  refine jT_xiconst (k := 1) (pcN := 1344) jI_379_1343 rfl ?_
  refine jT_xiadd (x := 0) (y := 1) (z := 1) (pcN := 1345) jI_379_1344 rfl (by decide) rfl ?_
  refine jT_adv 1 (pcN := 1346) (LN := [(6, (0, 0)), (5, (0, 0)), (4, (4, 3)), (3, (4, 2)), (2, (4, 1)), (1, (4, 0)), (0, (6, 0))]) (stN := [(0, x1), (4, 1)]) (hsN := [jzA_2337, jzA_266, (101, [], [0]), jgh, jgh, jgh, jgh, jgh, jgh, jgh, jgh, jgh, jgh, jzA_327, jzA_322, (100, [], jS0), (100, [], []), jzA_323, jzA_197, jgh, jgh, (101, [], [0, 0, 0, 0, 0, 0]), jgh, jgh, jgh, jgh, jgh, jgh, jgh, jgh, jzA_324, (117, [], [44, 45, 46, 47]), jgh, jgh, jgh, (100, [], (List.replicate 1613 0)), jgh, jgh, jgh, jgh, jgh, jgh, jgh, (4, [(4, 48), (1, 1)], []), jgh, (7, [(4, 49), (4, (-1)), (4, (-1))], []), jgh, jgh, (101, [], [0, 0, 0, 0, 0, 0]), (114, [], [43]), (101, [], [x2, 0, 0, 0, 0, 0]), (4, [(4, 50), (1, 1)], []), jgh, jzA_2338]) (c1 := 0) (s1 := 0) (c2 := 0) (s2 := 0) (by exact rfl) ?_ (by omega) (by omega)
  refine jT_eq (LN := [(6, (0, 0)), (5, (0, 0)), (4, (4, 3)), (3, (4, 2)), (2, (4, 1)), (1, (4, 0)), (0, (6, 0))]) (stN := [(0, 1), (4, 1)]) (hsN := [jzA_2337, jzA_266, (101, [], [0]), jgh, jgh, jgh, jgh, jgh, jgh, jgh, jgh, jgh, jgh, jzA_327, jzA_322, (100, [], jS0), (100, [], []), jzA_323, jzA_197, jgh, jgh, (101, [], [0, 0, 0, 0, 0, 0]), jgh, jgh, jgh, jgh, jgh, jgh, jgh, jgh, jzA_324, (117, [], [44, 45, 46, 47]), jgh, jgh, jgh, (100, [], (List.replicate 1613 0)), jgh, jgh, jgh, jgh, jgh, jgh, jgh, (4, [(4, 48), (1, 1)], []), jgh, (7, [(4, 49), (4, (-1)), (4, (-1))], []), jgh, jgh, (101, [], [0, 0, 0, 0, 0, 0]), (114, [], [43]), (101, [], [x2, 0, 0, 0, 0, 0]), (4, [(4, 50), (1, 1)], []), jgh, jzA_2338]) (rfl) (by simp only [List.cons.injEq, Prod.mk.injEq, and_true, true_and] <;> ((try unfold jw); (try unfold jwl); omega)) (rfl) ?_
  refine jT_xaload_n (v := (6, 0)) (pcN := 1347) jI_379_1346 rfl rfl rfl ?_
  refine jT_xiload (v := (0, 0)) (pcN := 1349) jI_379_1347 rfl rfl rfl ?_
  refine jT_xiconst (k := 2) (pcN := 1350) jI_379_1349 rfl ?_
  refine jT_xiadd (x := 0) (y := 2) (z := 2) (pcN := 1351) jI_379_1350 rfl (by decide) rfl ?_
  refine jT_adv 1 (pcN := 1352) (LN := [(6, (0, 0)), (5, (0, 0)), (4, (4, 3)), (3, (4, 2)), (2, (4, 1)), (1, (4, 0)), (0, (6, 0))]) (stN := [(0, x2), (0, 1), (4, 1)]) (hsN := [jzA_2337, jzA_266, (101, [], [0]), jgh, jgh, jgh, jgh, jgh, jgh, jgh, jgh, jgh, jgh, jzA_327, jzA_322, (100, [], jS0), (100, [], []), jzA_323, jzA_197, jgh, jgh, (101, [], [0, 0, 0, 0, 0, 0]), jgh, jgh, jgh, jgh, jgh, jgh, jgh, jgh, jzA_324, (117, [], [44, 45, 46, 47]), jgh, jgh, jgh, (100, [], (List.replicate 1613 0)), jgh, jgh, jgh, jgh, jgh, jgh, jgh, (4, [(4, 48), (1, 1)], []), jgh, (7, [(4, 49), (4, (-1)), (4, (-1))], []), jgh, jgh, (101, [], [0, 0, 0, 0, 0, 0]), (114, [], [43]), (101, [], [x2, 0, 0, 0, 0, 0]), (4, [(4, 50), (1, 1)], []), jgh, jzA_2338]) (c1 := 0) (s1 := 0) (c2 := 0) (s2 := 0) (by exact rfl) ?_ (by omega) (by omega)
  refine jT_xaload_n (v := (6, 0)) (pcN := 1353) jI_379_1352 rfl rfl rfl ?_
  refine jT_xiload (v := (0, 0)) (pcN := 1355) jI_379_1353 rfl rfl rfl ?_
  refine jT_xiconst (k := 3) (pcN := 1356) jI_379_1355 rfl ?_
  refine jT_xiadd (x := 0) (y := 3) (z := 3) (pcN := 1357) jI_379_1356 rfl (by decide) rfl ?_
  refine jT_adv 1 (pcN := 1358) (LN := [(6, (0, 0)), (5, (0, 0)), (4, (4, 3)), (3, (4, 2)), (2, (4, 1)), (1, (4, 0)), (0, (6, 0))]) (stN := [(0, x3), (0, x2), (0, 1), (4, 1)]) (hsN := [jzA_2337, jzA_266, (101, [], [0]), jgh, jgh, jgh, jgh, jgh, jgh, jgh, jgh, jgh, jgh, jzA_327, jzA_322, (100, [], jS0), (100, [], []), jzA_323, jzA_197, jgh, jgh, (101, [], [0, 0, 0, 0, 0, 0]), jgh, jgh, jgh, jgh, jgh, jgh, jgh, jgh, jzA_324, (117, [], [44, 45, 46, 47]), jgh, jgh, jgh, (100, [], (List.replicate 1613 0)), jgh, jgh, jgh, jgh, jgh, jgh, jgh, (4, [(4, 48), (1, 1)], []), jgh, (7, [(4, 49), (4, (-1)), (4, (-1))], []), jgh, jgh, (101, [], [0, 0, 0, 0, 0, 0]), (114, [], [43]), (101, [], [x2, 0, 0, 0, 0, 0]), (4, [(4, 50), (1, 1)], []), jgh, jzA_2338]) (c1 := 0) (s1 := 0) (c2 := 0) (s2 := 0) (by exact rfl) ?_ (by omega) (by omega)
  refine jT_callB [1, 15, 16, 17, 18, 19, 20, 21, 22, 23, 24, 25, 26, 27, 28, 29, 35, 36, 37, 38, 39, 40, 41, 42] (y := 252) (pcN := 1361) (dC := 2) (bc1 := 0) (bc2 := 0) (c1 := 0) (c2 := 0) (as := [(4, 1), (0, 1), (0, x2), (0, x3)]) (asC := [(4, 0), (0, 1), (0, x2), (0, x3)]) (LN := [(6, (0, 0)), (5, (0, 0)), (4, (4, 3)), (3, (4, 2)), (2, (4, 1)), (1, (4, 0)), (0, (6, 0))]) (stN := []) (hsC := jpA_248) (hsD := [jzA_200, (100, [], ((((((((((((((jS0).set ((7 * x3).toNat) x2)).set ((7 * x3 + 1).toNat) 0)).set ((7 * x3 + 2).toNat) 0)).set ((7 * x3 + 3).toNat) 0)).set ((7 * x3 + 4).toNat) 0)).set ((7 * x3 + 5).toNat) 0)).set ((7 * x3 + 6).toNat) 1)), (100, [], []), jzA_196, jzA_201, jgh, jgh, (101, [], [x2, 0, 0, 0, 0, 0]), jgh, jgh, jgh, jgh, jgh, jgh, jgh, jgh, (100, [], jS0), jgh, jgh, jgh, jgh, jgh, jgh, jgh]) (v := (0, 0)) (st2 := [(0, 0)]) (hs2 := [jzA_2337, jzA_330, (101, [], [0]), jgh, jgh, jgh, jgh, jgh, jgh, jgh, jgh, jgh, jgh, jzA_327, jzA_322, (100, [], ((((((((((((((jS0).set ((7 * x3).toNat) x2)).set ((7 * x3 + 1).toNat) 0)).set ((7 * x3 + 2).toNat) 0)).set ((7 * x3 + 3).toNat) 0)).set ((7 * x3 + 4).toNat) 0)).set ((7 * x3 + 5).toNat) 0)).set ((7 * x3 + 6).toNat) 1)), (100, [], []), jzA_323, jzA_331, jgh, jgh, (101, [], [x2, 0, 0, 0, 0, 0]), jgh, jgh, jgh, jgh, jgh, jgh, jgh, jgh, jzA_324, (117, [], [44, 45, 46, 47]), jgh, jgh, jgh, (100, [], jS0), jgh, jgh, jgh, jgh, jgh, jgh, jgh, (4, [(4, 48), (1, 1)], []), jgh, (7, [(4, 49), (4, (-1)), (4, (-1))], []), jgh, jgh, (101, [], [0, 0, 0, 0, 0, 0]), (114, [], [43]), (101, [], [x2, 0, 0, 0, 0, 0]), (4, [(4, 50), (1, 1)], []), jgh, jzA_2338]) (jA_252_587 (d := 0) (by omega) (by omega)) (by rfl) (by rfl) (by rfl) (by rfl) ⟨rfl, rfl, rfl, rfl, rfl, rfl, rfl, rfl, rfl, rfl, rfl, rfl, rfl, rfl, rfl, rfl, rfl, rfl, rfl, rfl, rfl, rfl, rfl, rfl, trivial⟩ (by rfl) (by rfl) (by omega) (by show 50 ≤ 54; omega) (by omega) (by omega) rfl rfl ?_
  refine jT_xistore (v := (0, 0)) (LN := [(7, (0, 0)), (6, (0, 0)), (5, (0, 0)), (4, (4, 3)), (3, (4, 2)), (2, (4, 1)), (1, (4, 0)), (0, (6, 0))]) (pcN := 1363) jI_379_1361 rfl rfl rfl rfl ?_
  refine jT_xaload_n (v := (4, 1)) (pcN := 1364) jI_379_1363 rfl rfl rfl ?_
  refine jT_callA [1, 15, 16, 17, 18, 19, 20, 21, 22, 23, 24, 25, 26, 27, 28, 29] (y := 186) (pcN := 1367) (dC := 0) (bc1 := 0) (bc2 := 0) (c1 := 0) (c2 := 0) (as := [(4, 1)]) (asC := [(4, 0)]) (LN := [(7, (0, 0)), (6, (0, 0)), (5, (0, 0)), (4, (4, 3)), (3, (4, 2)), (2, (4, 1)), (1, (4, 0)), (0, (6, 0))]) (stN := []) (hsC := jpA_258) (ex := []) (v := (0, 0)) (st2 := [(0, 0)]) (hs2 := [jzA_2337, jzA_330, (101, [], [0]), jgh, jgh, jgh, jgh, jgh, jgh, jgh, jgh, jgh, jgh, jzA_327, jzA_322, (100, [], ((((((((((((((jS0).set ((7 * x3).toNat) x2)).set ((7 * x3 + 1).toNat) 0)).set ((7 * x3 + 2).toNat) 0)).set ((7 * x3 + 3).toNat) 0)).set ((7 * x3 + 4).toNat) 0)).set ((7 * x3 + 5).toNat) 0)).set ((7 * x3 + 6).toNat) 1)), (100, [], []), jzA_323, jzA_331, jgh, jgh, (101, [], [x2, 0, 0, 0, 0, 0]), jgh, jgh, jgh, jgh, jgh, jgh, jgh, jgh, jzA_324, (117, [], [44, 45, 46, 47]), jgh, jgh, jgh, (100, [], jS0), jgh, jgh, jgh, jgh, jgh, jgh, jgh, (4, [(4, 48), (1, 1)], []), jgh, (7, [(4, 49), (4, (-1)), (4, (-1))], []), jgh, jgh, (101, [], [0, 0, 0, 0, 0, 0]), (114, [], [43]), (101, [], [x2, 0, 0, 0, 0, 0]), (4, [(4, 50), (1, 1)], []), jgh, jzA_2338]) (jA_186_54 (d := 0)) (by rfl) (by rfl) (by rfl) (by rfl) ⟨rfl, rfl, rfl, rfl, rfl, rfl, rfl, rfl, rfl, rfl, rfl, rfl, rfl, rfl, rfl, rfl, trivial⟩ (by rfl) (by rfl) (by omega) (by show 50 ≤ 54; omega) (by omega) (by omega) rfl rfl ?_
  refine jT_xiload (v := (0, 0)) (pcN := 1369) jI_379_1367 rfl rfl rfl ?_
  refine jT_xicT (pcN := 1374) jI_379_1369 rfl (by decide +kernel) rfl ?_
  refine jT_xiload (v := (0, 0)) (pcN := 1376) jI_379_1374 rfl rfl rfl ?_
  refine jT_xifF (t := 1391) (pcN := 1379) jI_379_1376 rfl (by decide +kernel) rfl rfl ?_
  refine jT_xaload_n (v := (4, 2)) (pcN := 1380) jI_379_1379 rfl rfl rfl ?_
  refine jT_xiconst (k := 0) (pcN := 1381) jI_379_1380 rfl ?_
  refine jT_lald (x := 0) (a := 2) (j := 0) (fs := []) (X := [0]) jI_379_1381 rfl rfl rfl rfl ?_
  refine jT_eq (LN := [(7, (0, 0)), (6, (0, 0)), (5, (0, 0)), (4, (4, 3)), (3, (4, 2)), (2, (4, 1)), (1, (4, 0)), (0, (6, 0))]) (stN := [(1, 0)]) (hsN := [jzA_2337, jzA_330, (101, [], [0]), jgh, jgh, jgh, jgh, jgh, jgh, jgh, jgh, jgh, jgh, jzA_327, jzA_322, (100, [], ((((((((((((((jS0).set ((7 * x3).toNat) x2)).set ((7 * x3 + 1).toNat) 0)).set ((7 * x3 + 2).toNat) 0)).set ((7 * x3 + 3).toNat) 0)).set ((7 * x3 + 4).toNat) 0)).set ((7 * x3 + 5).toNat) 0)).set ((7 * x3 + 6).toNat) 1)), (100, [], []), jzA_323, jzA_331, jgh, jgh, (101, [], [x2, 0, 0, 0, 0, 0]), jgh, jgh, jgh, jgh, jgh, jgh, jgh, jgh, jzA_324, (117, [], [44, 45, 46, 47]), jgh, jgh, jgh, (100, [], jS0), jgh, jgh, jgh, jgh, jgh, jgh, jgh, (4, [(4, 48), (1, 1)], []), jgh, (7, [(4, 49), (4, (-1)), (4, (-1))], []), jgh, jgh, (101, [], [0, 0, 0, 0, 0, 0]), (114, [], [43]), (101, [], [x2, 0, 0, 0, 0, 0]), (4, [(4, 50), (1, 1)], []), jgh, jzA_2338]) rfl rfl rfl ?_
  refine jT_xiload (v := (0, 0)) (pcN := 1384) jI_379_1382 rfl rfl rfl ?_
  refine jT_xi2l (x := 0) (z := 0) (pcN := 1385) jI_379_1384 rfl (by decide +kernel) rfl ?_
  refine jT_lcmp (a := 0) (b := 0) (z := 0) (by rfl) (by rfl) (by decide +kernel) (by decide +kernel) (by decide) ?_
  refine jT_xifT (pcN := 1391) jI_379_1386 rfl (by decide +kernel) rfl ?_
  refine jT_xgoto (pcN := 3740) jI_379_1391 rfl ?_
  refine jT_xiinc (x := 0) (z := 5) (LN := [(5, (0, 5)), (7, (0, 0)), (6, (0, 0)), (4, (4, 3)), (3, (4, 2)), (2, (4, 1)), (1, (4, 0)), (0, (6, 0))]) (pcN := 3743) jI_379_3740 rfl rfl (by decide) rfl rfl ?_
  refine jT_xgoto (pcN := 28) jI_379_3743 rfl ?_
  refine jT_xiload (v := (0, 5)) (pcN := 30) jI_379_28 rfl rfl rfl ?_
  refine jT_xaload_n (v := (6, 0)) (pcN := 31) jI_379_30 rfl rfl rfl ?_
  refine jT_adv 1 (pcN := 32) (LN := [(5, (0, 5)), (7, (0, 0)), (6, (0, 0)), (4, (4, 3)), (3, (4, 2)), (2, (4, 1)), (1, (4, 0)), (0, (6, 0))]) (stN := [(0, 5), (0, 5)]) (hsN := [jzA_2337, jzA_330, (101, [], [0]), jgh, jgh, jgh, jgh, jgh, jgh, jgh, jgh, jgh, jgh, jzA_327, jzA_322, (100, [], ((((((((((((((jS0).set ((7 * x3).toNat) x2)).set ((7 * x3 + 1).toNat) 0)).set ((7 * x3 + 2).toNat) 0)).set ((7 * x3 + 3).toNat) 0)).set ((7 * x3 + 4).toNat) 0)).set ((7 * x3 + 5).toNat) 0)).set ((7 * x3 + 6).toNat) 1)), (100, [], []), jzA_323, jzA_331, jgh, jgh, (101, [], [x2, 0, 0, 0, 0, 0]), jgh, jgh, jgh, jgh, jgh, jgh, jgh, jgh, jzA_324, (117, [], [44, 45, 46, 47]), jgh, jgh, jgh, (100, [], jS0), jgh, jgh, jgh, jgh, jgh, jgh, jgh, (4, [(4, 48), (1, 1)], []), jgh, (7, [(4, 49), (4, (-1)), (4, (-1))], []), jgh, jgh, (101, [], [0, 0, 0, 0, 0, 0]), (114, [], [43]), (101, [], [x2, 0, 0, 0, 0, 0]), (4, [(4, 50), (1, 1)], []), jgh, jzA_2338]) (c1 := 0) (s1 := 0) (c2 := 0) (s2 := 0) (by exact rfl) ?_ (by omega) (by omega)
  refine jT_xiconst (k := 5) (pcN := 33) jI_379_32 rfl ?_
  refine jT_xisub (x := 5) (y := 5) (z := 0) (pcN := 34) jI_379_33 rfl (by decide) rfl ?_
  refine jT_xicT (pcN := 3746) jI_379_34 rfl (by decide +kernel) rfl ?_
  refine jT_xiconst (k := 1) (pcN := 3747) jI_379_3746 rfl ?_
  exact jT_ret rfl (by decide) (by show 50 ≤ 54; decide) (by omega) (by omega) ⟨rfl, rfl⟩
def jpA_2348 : List JC := [jzA_265, jzA_266, (101, [], [0]), jgh, jgh, jgh, jgh, jgh, jgh, jgh, jgh, jgh, jgh, jzA_79, jzA_322, (100, [], jS0), (100, [], []), jzA_323, jzA_197, jgh, jgh, (101, [], [0, 0, 0, 0, 0, 0]), jgh, jgh, jgh, jgh, jgh, jgh, jgh, jgh, jzA_324, (117, [], [44, 45, 46, 47]), jgh, jgh, jgh, (100, [], (List.replicate 1613 0)), jgh, jgh, jgh, jgh, jgh, jgh, jgh, (4, [(4, 48), (1, 1)], []), jgh, jgh, (7, [(4, 49), (4, (-1)), (4, (-1))], []), jgh, (101, [], [0, 0, 0, 0, 0, 0]), (114, [], [43])]
set_option maxRecDepth 100000 in
theorem jL_13_9 {d : Nat} {x0 x1 x2 x3 x4 : Int} (h_x0 : (-2147483648) ≤ x0 ∧ x0 ≤ 2147483647) (h_x1 : 2 ≤ x1 ∧ x1 ≤ 2) (h_x2 : (-200) ≤ x2 ∧ x2 ≤ (-1)) (h_x3 : 0 ≤ x3 ∧ x3 ≤ 7) (h_x4 : (-2147483648) ≤ x4 ∧ x4 ≤ 2147483647) : jT [x0, x1, x2, x3, x4] (d + 5) 379 50 1314 [(5, (0, 0)), (4, (4, 3)), (3, (4, 2)), (2, (4, 1)), (1, (4, 0)), (0, (6, 0))] [] jpA_2348 4 21 (fun k v hsN => k = 0 ∧ v = (0, 1)) := by
  refine jT_xaload_n (v := (4, 0)) (pcN := 1315) jI_379_1314 rfl rfl rfl ?_
  refine jT_xaload_n (v := (6, 0)) (pcN := 1316) jI_379_1315 rfl rfl rfl ?_
  refine jT_xiload (v := (0, 0)) (pcN := 1318) jI_379_1316 rfl rfl rfl ?_
  refine jT_xiconst (k := 1) (pcN := 1319) jI_379_1318 rfl ?_
  refine jT_xiadd (x := 0) (y := 1) (z := 1) (pcN := 1320) jI_379_1319 rfl (by decide) rfl ?_
  refine jT_adv 1 (pcN := 1321) (LN := [(5, (0, 0)), (4, (4, 3)), (3, (4, 2)), (2, (4, 1)), (1, (4, 0)), (0, (6, 0))]) (stN := [(0, x1), (4, 0)]) (hsN := jpA_2348) (c1 := 0) (s1 := 0) (c2 := 4) (s2 := 21) (by exact rfl) ?_ (by omega) (by omega)
  refine jT_eq (LN := [(5, (0, 0)), (4, (4, 3)), (3, (4, 2)), (2, (4, 1)), (1, (4, 0)), (0, (6, 0))]) (stN := [(0, 2), (4, 0)]) (hsN := [jzA_265, jzA_266, (101, [], [0]), jgh, jgh, jgh, jgh, jgh, jgh, jgh, jgh, jgh, jgh, jzA_79, jzA_322, (100, [], jS0), (100, [], []), jzA_323, jzA_197, jgh, jgh, (101, [], [0, 0, 0, 0, 0, 0]), jgh, jgh, jgh, jgh, jgh, jgh, jgh, jgh, jzA_324, (117, [], [44, 45, 46, 47]), jgh, jgh, jgh, (100, [], (List.replicate 1613 0)), jgh, jgh, jgh, jgh, jgh, jgh, jgh, (4, [(4, 48), (1, 1)], []), jgh, jgh, (7, [(4, 49), (4, (-1)), (4, (-1))], []), jgh, (101, [], [0, 0, 0, 0, 0, 0]), (114, [], [43])]) (rfl) (by simp only [List.cons.injEq, Prod.mk.injEq, and_true, true_and] <;> ((try unfold jw); (try unfold jwl); omega)) (rfl) ?_
  refine jT_xaload_n (v := (6, 0)) (pcN := 1322) jI_379_1321 rfl rfl rfl ?_
  refine jT_xiload (v := (0, 0)) (pcN := 1324) jI_379_1322 rfl rfl rfl ?_
  refine jT_xiconst (k := 2) (pcN := 1325) jI_379_1324 rfl ?_
  refine jT_xiadd (x := 0) (y := 2) (z := 2) (pcN := 1326) jI_379_1325 rfl (by decide) rfl ?_
  refine jT_adv 1 (pcN := 1327) (LN := [(5, (0, 0)), (4, (4, 3)), (3, (4, 2)), (2, (4, 1)), (1, (4, 0)), (0, (6, 0))]) (stN := [(0, x2), (0, 2), (4, 0)]) (hsN := jpA_2348) (c1 := 0) (s1 := 0) (c2 := 4) (s2 := 21) (by exact rfl) ?_ (by omega) (by omega)
  refine jT_xaload_n (v := (6, 0)) (pcN := 1328) jI_379_1327 rfl rfl rfl ?_
  refine jT_xiload (v := (0, 0)) (pcN := 1330) jI_379_1328 rfl rfl rfl ?_
  refine jT_xiconst (k := 3) (pcN := 1331) jI_379_1330 rfl ?_
  refine jT_xiadd (x := 0) (y := 3) (z := 3) (pcN := 1332) jI_379_1331 rfl (by decide) rfl ?_
  refine jT_adv 1 (pcN := 1333) (LN := [(5, (0, 0)), (4, (4, 3)), (3, (4, 2)), (2, (4, 1)), (1, (4, 0)), (0, (6, 0))]) (stN := [(0, x3), (0, x2), (0, 2), (4, 0)]) (hsN := jpA_2348) (c1 := 0) (s1 := 0) (c2 := 4) (s2 := 21) (by exact rfl) ?_ (by omega) (by omega)
  refine jT_xaload_n (v := (4, 2)) (pcN := 1334) jI_379_1333 rfl rfl rfl ?_
  refine jT_fB [0, 2, 4, 5, 6, 7, 8, 9, 10, 11, 12, 13, 14, 30, 31, 32, 33, 34, 43, 44, 45, 46, 47, 48, 49] 50 (y := 339) (pcN := 1337) (dC := 4) (bc1 := 4) (bc2 := 21) (c1 := 0) (c2 := 0) (as := [(4, 0), (0, 2), (0, x2), (0, x3), (4, 2)]) (asC := [(4, 0), (0, 2), (0, x2), (0, x3), (4, 1)]) (LN := [(5, (0, 0)), (4, (4, 3)), (3, (4, 2)), (2, (4, 1)), (1, (4, 0)), (0, (6, 0))]) (stN := []) (hsC := jpA_2290) (hsD := [jzA_2220, (101, [], [0]), jgh, jgh, jgh, jgh, jgh, jgh, jgh, jgh, jgh, jzA_76, jzA_77, jzA_109, (117, [], [19, 20, 21, 22]), jgh, jgh, jgh, (4, [(4, 23), (1, 1)], []), jgh, jgh, (7, [(4, 24), (4, (-1)), (4, (-1))], []), jgh, (101, [], [0, 0, 0, 0, 0, 0]), (114, [], [18]), (101, [], [x2, 0, 0, 0, 0, 0]), (4, [(4, 25), (1, 1)], []), jgh, jzA_2221]) (v := (0, 0)) (st2 := [(0, 0)]) (hs2 := [jzA_2337, jzA_266, (101, [], [0]), jgh, jgh, jgh, jgh, jgh, jgh, jgh, jgh, jgh, jgh, jzA_327, jzA_322, (100, [], jS0), (100, [], []), jzA_323, jzA_197, jgh, jgh, (101, [], [0, 0, 0, 0, 0, 0]), jgh, jgh, jgh, jgh, jgh, jgh, jgh, jgh, jzA_324, (117, [], [44, 45, 46, 47]), jgh, jgh, jgh, (100, [], (List.replicate 1613 0)), jgh, jgh, jgh, jgh, jgh, jgh, jgh, (4, [(4, 48), (1, 1)], []), jgh, jgh, (7, [(4, 49), (4, (-1)), (4, (-1))], []), jgh, (101, [], [0, 0, 0, 0, 0, 0]), (114, [], [43]), (101, [], [x2, 0, 0, 0, 0, 0]), (4, [(4, 50), (1, 1)], []), jgh, jzA_2338]) (jA_339_589 (d := 0) (by omega) (by omega)) (by rfl) (by rfl) (by decide +kernel) (by rfl) (by rfl) (by omega) (by omega) (by omega) (by omega) rfl rfl ?_
  refine jT_xistore (v := (0, 0)) (LN := [(6, (0, 0)), (5, (0, 0)), (4, (4, 3)), (3, (4, 2)), (2, (4, 1)), (1, (4, 0)), (0, (6, 0))]) (pcN := 1339) jI_379_1337 rfl rfl rfl rfl ?_
  refine jT_xaload_n (v := (4, 1)) (pcN := 1340) jI_379_1339 rfl rfl rfl ?_
  refine jT_xaload_n (v := (6, 0)) (pcN := 1341) jI_379_1340 rfl rfl rfl ?_
  refine jT_xiload (v := (0, 0)) (pcN := 1343) jI_379_1341 rfl rfl rfl ?_
  refine jT_xiconst (k := 1) (pcN := 1344) jI_379_1343 rfl ?_
  refine jT_xiadd (x := 0) (y := 1) (z := 1) (pcN := 1345) jI_379_1344 rfl (by decide) rfl ?_
  refine jT_adv 1 (pcN := 1346) (LN := [(6, (0, 0)), (5, (0, 0)), (4, (4, 3)), (3, (4, 2)), (2, (4, 1)), (1, (4, 0)), (0, (6, 0))]) (stN := [(0, x1), (4, 1)]) (hsN := [jzA_2337, jzA_266, (101, [], [0]), jgh, jgh, jgh, jgh, jgh, jgh, jgh, jgh, jgh, jgh, jzA_327, jzA_322, (100, [], jS0), (100, [], []), jzA_323, jzA_197, jgh, jgh, (101, [], [0, 0, 0, 0, 0, 0]), jgh, jgh, jgh, jgh, jgh, jgh, jgh, jgh, jzA_324, (117, [], [44, 45, 46, 47]), jgh, jgh, jgh, (100, [], (List.replicate 1613 0)), jgh, jgh, jgh, jgh, jgh, jgh, jgh, (4, [(4, 48), (1, 1)], []), jgh, jgh, (7, [(4, 49), (4, (-1)), (4, (-1))], []), jgh, (101, [], [0, 0, 0, 0, 0, 0]), (114, [], [43]), (101, [], [x2, 0, 0, 0, 0, 0]), (4, [(4, 50), (1, 1)], []), jgh, jzA_2338]) (c1 := 0) (s1 := 0) (c2 := 0) (s2 := 0) (by exact rfl) ?_ (by omega) (by omega)
  refine jT_eq (LN := [(6, (0, 0)), (5, (0, 0)), (4, (4, 3)), (3, (4, 2)), (2, (4, 1)), (1, (4, 0)), (0, (6, 0))]) (stN := [(0, 2), (4, 1)]) (hsN := [jzA_2337, jzA_266, (101, [], [0]), jgh, jgh, jgh, jgh, jgh, jgh, jgh, jgh, jgh, jgh, jzA_327, jzA_322, (100, [], jS0), (100, [], []), jzA_323, jzA_197, jgh, jgh, (101, [], [0, 0, 0, 0, 0, 0]), jgh, jgh, jgh, jgh, jgh, jgh, jgh, jgh, jzA_324, (117, [], [44, 45, 46, 47]), jgh, jgh, jgh, (100, [], (List.replicate 1613 0)), jgh, jgh, jgh, jgh, jgh, jgh, jgh, (4, [(4, 48), (1, 1)], []), jgh, jgh, (7, [(4, 49), (4, (-1)), (4, (-1))], []), jgh, (101, [], [0, 0, 0, 0, 0, 0]), (114, [], [43]), (101, [], [x2, 0, 0, 0, 0, 0]), (4, [(4, 50), (1, 1)], []), jgh, jzA_2338]) (rfl) (by simp only [List.cons.injEq, Prod.mk.injEq, and_true, true_and] <;> ((try unfold jw); (try unfold jwl); omega)) (rfl) ?_
  refine jT_xaload_n (v := (6, 0)) (pcN := 1347) jI_379_1346 rfl rfl rfl ?_
  refine jT_xiload (v := (0, 0)) (pcN := 1349) jI_379_1347 rfl rfl rfl ?_
  refine jT_xiconst (k := 2) (pcN := 1350) jI_379_1349 rfl ?_
  refine jT_xiadd (x := 0) (y := 2) (z := 2) (pcN := 1351) jI_379_1350 rfl (by decide) rfl ?_
  refine jT_adv 1 (pcN := 1352) (LN := [(6, (0, 0)), (5, (0, 0)), (4, (4, 3)), (3, (4, 2)), (2, (4, 1)), (1, (4, 0)), (0, (6, 0))]) (stN := [(0, x2), (0, 2), (4, 1)]) (hsN := [jzA_2337, jzA_266, (101, [], [0]), jgh, jgh, jgh, jgh, jgh, jgh, jgh, jgh, jgh, jgh, jzA_327, jzA_322, (100, [], jS0), (100, [], []), jzA_323, jzA_197, jgh, jgh, (101, [], [0, 0, 0, 0, 0, 0]), jgh, jgh, jgh, jgh, jgh, jgh, jgh, jgh, jzA_324, (117, [], [44, 45, 46, 47]), jgh, jgh, jgh, (100, [], (List.replicate 1613 0)), jgh, jgh, jgh, jgh, jgh, jgh, jgh, (4, [(4, 48), (1, 1)], []), jgh, jgh, (7, [(4, 49), (4, (-1)), (4, (-1))], []), jgh, (101, [], [0, 0, 0, 0, 0, 0]), (114, [], [43]), (101, [], [x2, 0, 0, 0, 0, 0]), (4, [(4, 50), (1, 1)], []), jgh, jzA_2338]) (c1 := 0) (s1 := 0) (c2 := 0) (s2 := 0) (by exact rfl) ?_ (by omega) (by omega)
  refine jT_xaload_n (v := (6, 0)) (pcN := 1353) jI_379_1352 rfl rfl rfl ?_
  refine jT_xiload (v := (0, 0)) (pcN := 1355) jI_379_1353 rfl rfl rfl ?_
  refine jT_xiconst (k := 3) (pcN := 1356) jI_379_1355 rfl ?_
  refine jT_xiadd (x := 0) (y := 3) (z := 3) (pcN := 1357) jI_379_1356 rfl (by decide) rfl ?_
  refine jT_adv 1 (pcN := 1358) (LN := [(6, (0, 0)), (5, (0, 0)), (4, (4, 3)), (3, (4, 2)), (2, (4, 1)), (1, (4, 0)), (0, (6, 0))]) (stN := [(0, x3), (0, x2), (0, 2), (4, 1)]) (hsN := [jzA_2337, jzA_266, (101, [], [0]), jgh, jgh, jgh, jgh, jgh, jgh, jgh, jgh, jgh, jgh, jzA_327, jzA_322, (100, [], jS0), (100, [], []), jzA_323, jzA_197, jgh, jgh, (101, [], [0, 0, 0, 0, 0, 0]), jgh, jgh, jgh, jgh, jgh, jgh, jgh, jgh, jzA_324, (117, [], [44, 45, 46, 47]), jgh, jgh, jgh, (100, [], (List.replicate 1613 0)), jgh, jgh, jgh, jgh, jgh, jgh, jgh, (4, [(4, 48), (1, 1)], []), jgh, jgh, (7, [(4, 49), (4, (-1)), (4, (-1))], []), jgh, (101, [], [0, 0, 0, 0, 0, 0]), (114, [], [43]), (101, [], [x2, 0, 0, 0, 0, 0]), (4, [(4, 50), (1, 1)], []), jgh, jzA_2338]) (c1 := 0) (s1 := 0) (c2 := 0) (s2 := 0) (by exact rfl) ?_ (by omega) (by omega)
  refine jT_callB [1, 15, 16, 17, 18, 19, 20, 21, 22, 23, 24, 25, 26, 27, 28, 29, 35, 36, 37, 38, 39, 40, 41, 42] (y := 252) (pcN := 1361) (dC := 2) (bc1 := 0) (bc2 := 0) (c1 := 0) (c2 := 0) (as := [(4, 1), (0, 2), (0, x2), (0, x3)]) (asC := [(4, 0), (0, 2), (0, x2), (0, x3)]) (LN := [(6, (0, 0)), (5, (0, 0)), (4, (4, 3)), (3, (4, 2)), (2, (4, 1)), (1, (4, 0)), (0, (6, 0))]) (stN := []) (hsC := jpA_248) (hsD := [jzA_200, (100, [], ((((((((((((((jS0).set ((7 * x3).toNat) x2)).set ((7 * x3 + 1).toNat) 0)).set ((7 * x3 + 2).toNat) 0)).set ((7 * x3 + 3).toNat) 0)).set ((7 * x3 + 4).toNat) 0)).set ((7 * x3 + 5).toNat) 0)).set ((7 * x3 + 6).toNat) 1)), (100, [], []), jzA_196, jzA_201, jgh, jgh, (101, [], [x2, 0, 0, 0, 0, 0]), jgh, jgh, jgh, jgh, jgh, jgh, jgh, jgh, (100, [], jS0), jgh, jgh, jgh, jgh, jgh, jgh, jgh]) (v := (0, 0)) (st2 := [(0, 0)]) (hs2 := [jzA_2337, jzA_330, (101, [], [0]), jgh, jgh, jgh, jgh, jgh, jgh, jgh, jgh, jgh, jgh, jzA_327, jzA_322, (100, [], ((((((((((((((jS0).set ((7 * x3).toNat) x2)).set ((7 * x3 + 1).toNat) 0)).set ((7 * x3 + 2).toNat) 0)).set ((7 * x3 + 3).toNat) 0)).set ((7 * x3 + 4).toNat) 0)).set ((7 * x3 + 5).toNat) 0)).set ((7 * x3 + 6).toNat) 1)), (100, [], []), jzA_323, jzA_331, jgh, jgh, (101, [], [x2, 0, 0, 0, 0, 0]), jgh, jgh, jgh, jgh, jgh, jgh, jgh, jgh, jzA_324, (117, [], [44, 45, 46, 47]), jgh, jgh, jgh, (100, [], jS0), jgh, jgh, jgh, jgh, jgh, jgh, jgh, (4, [(4, 48), (1, 1)], []), jgh, jgh, (7, [(4, 49), (4, (-1)), (4, (-1))], []), jgh, (101, [], [0, 0, 0, 0, 0, 0]), (114, [], [43]), (101, [], [x2, 0, 0, 0, 0, 0]), (4, [(4, 50), (1, 1)], []), jgh, jzA_2338]) (jA_252_590 (d := 0) (by omega) (by omega)) (by rfl) (by rfl) (by rfl) (by rfl) ⟨rfl, rfl, rfl, rfl, rfl, rfl, rfl, rfl, rfl, rfl, rfl, rfl, rfl, rfl, rfl, rfl, rfl, rfl, rfl, rfl, rfl, rfl, rfl, rfl, trivial⟩ (by rfl) (by rfl) (by omega) (by show 50 ≤ 54; omega) (by omega) (by omega) rfl rfl ?_
  refine jT_xistore (v := (0, 0)) (LN := [(7, (0, 0)), (6, (0, 0)), (5, (0, 0)), (4, (4, 3)), (3, (4, 2)), (2, (4, 1)), (1, (4, 0)), (0, (6, 0))]) (pcN := 1363) jI_379_1361 rfl rfl rfl rfl ?_
  refine jT_xaload_n (v := (4, 1)) (pcN := 1364) jI_379_1363 rfl rfl rfl ?_
  refine jT_callA [1, 15, 16, 17, 18, 19, 20, 21, 22, 23, 24, 25, 26, 27, 28, 29] (y := 186) (pcN := 1367) (dC := 0) (bc1 := 0) (bc2 := 0) (c1 := 0) (c2 := 0) (as := [(4, 1)]) (asC := [(4, 0)]) (LN := [(7, (0, 0)), (6, (0, 0)), (5, (0, 0)), (4, (4, 3)), (3, (4, 2)), (2, (4, 1)), (1, (4, 0)), (0, (6, 0))]) (stN := []) (hsC := jpA_258) (ex := []) (v := (0, 0)) (st2 := [(0, 0)]) (hs2 := [jzA_2337, jzA_330, (101, [], [0]), jgh, jgh, jgh, jgh, jgh, jgh, jgh, jgh, jgh, jgh, jzA_327, jzA_322, (100, [], ((((((((((((((jS0).set ((7 * x3).toNat) x2)).set ((7 * x3 + 1).toNat) 0)).set ((7 * x3 + 2).toNat) 0)).set ((7 * x3 + 3).toNat) 0)).set ((7 * x3 + 4).toNat) 0)).set ((7 * x3 + 5).toNat) 0)).set ((7 * x3 + 6).toNat) 1)), (100, [], []), jzA_323, jzA_331, jgh, jgh, (101, [], [x2, 0, 0, 0, 0, 0]), jgh, jgh, jgh, jgh, jgh, jgh, jgh, jgh, jzA_324, (117, [], [44, 45, 46, 47]), jgh, jgh, jgh, (100, [], jS0), jgh, jgh, jgh, jgh, jgh, jgh, jgh, (4, [(4, 48), (1, 1)], []), jgh, jgh, (7, [(4, 49), (4, (-1)), (4, (-1))], []), jgh, (101, [], [0, 0, 0, 0, 0, 0]), (114, [], [43]), (101, [], [x2, 0, 0, 0, 0, 0]), (4, [(4, 50), (1, 1)], []), jgh, jzA_2338]) (jA_186_54 (d := 0)) (by rfl) (by rfl) (by rfl) (by rfl) ⟨rfl, rfl, rfl, rfl, rfl, rfl, rfl, rfl, rfl, rfl, rfl, rfl, rfl, rfl, rfl, rfl, trivial⟩ (by rfl) (by rfl) (by omega) (by show 50 ≤ 54; omega) (by omega) (by omega) rfl rfl ?_
  refine jT_xiload (v := (0, 0)) (pcN := 1369) jI_379_1367 rfl rfl rfl ?_
  refine jT_xicT (pcN := 1374) jI_379_1369 rfl (by decide +kernel) rfl ?_
  refine jT_xiload (v := (0, 0)) (pcN := 1376) jI_379_1374 rfl rfl rfl ?_
  refine jT_xifF (t := 1391) (pcN := 1379) jI_379_1376 rfl (by decide +kernel) rfl rfl ?_
  refine jT_xaload_n (v := (4, 2)) (pcN := 1380) jI_379_1379 rfl rfl rfl ?_
  refine jT_xiconst (k := 0) (pcN := 1381) jI_379_1380 rfl ?_
  refine jT_lald (x := 0) (a := 2) (j := 0) (fs := []) (X := [0]) jI_379_1381 rfl rfl rfl rfl ?_
  refine jT_eq (LN := [(7, (0, 0)), (6, (0, 0)), (5, (0, 0)), (4, (4, 3)), (3, (4, 2)), (2, (4, 1)), (1, (4, 0)), (0, (6, 0))]) (stN := [(1, 0)]) (hsN := [jzA_2337, jzA_330, (101, [], [0]), jgh, jgh, jgh, jgh, jgh, jgh, jgh, jgh, jgh, jgh, jzA_327, jzA_322, (100, [], ((((((((((((((jS0).set ((7 * x3).toNat) x2)).set ((7 * x3 + 1).toNat) 0)).set ((7 * x3 + 2).toNat) 0)).set ((7 * x3 + 3).toNat) 0)).set ((7 * x3 + 4).toNat) 0)).set ((7 * x3 + 5).toNat) 0)).set ((7 * x3 + 6).toNat) 1)), (100, [], []), jzA_323, jzA_331, jgh, jgh, (101, [], [x2, 0, 0, 0, 0, 0]), jgh, jgh, jgh, jgh, jgh, jgh, jgh, jgh, jzA_324, (117, [], [44, 45, 46, 47]), jgh, jgh, jgh, (100, [], jS0), jgh, jgh, jgh, jgh, jgh, jgh, jgh, (4, [(4, 48), (1, 1)], []), jgh, jgh, (7, [(4, 49), (4, (-1)), (4, (-1))], []), jgh, (101, [], [0, 0, 0, 0, 0, 0]), (114, [], [43]), (101, [], [x2, 0, 0, 0, 0, 0]), (4, [(4, 50), (1, 1)], []), jgh, jzA_2338]) rfl rfl rfl ?_
  refine jT_xiload (v := (0, 0)) (pcN := 1384) jI_379_1382 rfl rfl rfl ?_
  refine jT_xi2l (x := 0) (z := 0) (pcN := 1385) jI_379_1384 rfl (by decide +kernel) rfl ?_
  refine jT_lcmp (a := 0) (b := 0) (z := 0) (by rfl) (by rfl) (by decide +kernel) (by decide +kernel) (by decide) ?_
  refine jT_xifT (pcN := 1391) jI_379_1386 rfl (by decide +kernel) rfl ?_
  refine jT_xgoto (pcN := 3740) jI_379_1391 rfl ?_
  refine jT_xiinc (x := 0) (z := 5) (LN := [(5, (0, 5)), (7, (0, 0)), (6, (0, 0)), (4, (4, 3)), (3, (4, 2)), (2, (4, 1)), (1, (4, 0)), (0, (6, 0))]) (pcN := 3743) jI_379_3740 rfl rfl (by decide) rfl rfl ?_
  refine jT_xgoto (pcN := 28) jI_379_3743 rfl ?_
  refine jT_xiload (v := (0, 5)) (pcN := 30) jI_379_28 rfl rfl rfl ?_
  refine jT_xaload_n (v := (6, 0)) (pcN := 31) jI_379_30 rfl rfl rfl ?_
  refine jT_adv 1 (pcN := 32) (LN := [(5, (0, 5)), (7, (0, 0)), (6, (0, 0)), (4, (4, 3)), (3, (4, 2)), (2, (4, 1)), (1, (4, 0)), (0, (6, 0))]) (stN := [(0, 5), (0, 5)]) (hsN := [jzA_2337, jzA_330, (101, [], [0]), jgh, jgh, jgh, jgh, jgh, jgh, jgh, jgh, jgh, jgh, jzA_327, jzA_322, (100, [], ((((((((((((((jS0).set ((7 * x3).toNat) x2)).set ((7 * x3 + 1).toNat) 0)).set ((7 * x3 + 2).toNat) 0)).set ((7 * x3 + 3).toNat) 0)).set ((7 * x3 + 4).toNat) 0)).set ((7 * x3 + 5).toNat) 0)).set ((7 * x3 + 6).toNat) 1)), (100, [], []), jzA_323, jzA_331, jgh, jgh, (101, [], [x2, 0, 0, 0, 0, 0]), jgh, jgh, jgh, jgh, jgh, jgh, jgh, jgh, jzA_324, (117, [], [44, 45, 46, 47]), jgh, jgh, jgh, (100, [], jS0), jgh, jgh, jgh, jgh, jgh, jgh, jgh, (4, [(4, 48), (1, 1)], []), jgh, jgh, (7, [(4, 49), (4, (-1)), (4, (-1))], []), jgh, (101, [], [0, 0, 0, 0, 0, 0]), (114, [], [43]), (101, [], [x2, 0, 0, 0, 0, 0]), (4, [(4, 50), (1, 1)], []), jgh, jzA_2338]) (c1 := 0) (s1 := 0) (c2 := 0) (s2 := 0) (by exact rfl) ?_ (by omega) (by omega)
  refine jT_xiconst (k := 5) (pcN := 33) jI_379_32 rfl ?_
  refine jT_xisub (x := 5) (y := 5) (z := 0) (pcN := 34) jI_379_33 rfl (by decide) rfl ?_
  refine jT_xicT (pcN := 3746) jI_379_34 rfl (by decide +kernel) rfl ?_
  refine jT_xiconst (k := 1) (pcN := 3747) jI_379_3746 rfl ?_
  exact jT_ret rfl (by decide) (by show 50 ≤ 54; decide) (by omega) (by omega) ⟨rfl, rfl⟩
def jpA_2349 : List JC := [jzA_2337, jzA_266, (101, [], [0]), jgh, jgh, jgh, jgh, jgh, jgh, jgh, jgh, jgh, jgh, jzA_327, jzA_322, (100, [], jS0), (100, [], []), jzA_323, jzA_197, jgh, jgh, (101, [], [0, 0, 0, 0, 0, 0]), jgh, jgh, jgh, jgh, jgh, jgh, jgh, jgh, jzA_324, (117, [], [44, 45, 46, 47]), jgh, jgh, jgh, (100, [], (List.replicate 1613 0)), jgh, jgh, jgh, jgh, jgh, jgh, jgh, (4, [(4, 48), (1, 1)], []), jgh, jgh, (7, [(4, 49), (4, (-1)), (4, (-1))], []), jgh, (101, [], [0, 0, 0, 0, 0, 0]), (114, [], [43]), (101, [], [0, 0, 0, 0, 0, 0]), (4, [(4, 50), (1, 1)], []), jgh, jzA_2338]
set_option maxRecDepth 100000 in
theorem jL_13_10 {d : Nat} {x0 x1 x2 x3 x4 : Int} (h_x0 : (-2147483648) ≤ x0 ∧ x0 ≤ 2147483647) (h_x1 : 2 ≤ x1 ∧ x1 ≤ 2) (h_x2 : 0 ≤ x2 ∧ x2 ≤ 0) (h_x3 : 0 ≤ x3 ∧ x3 ≤ 7) (h_x4 : (-2147483648) ≤ x4 ∧ x4 ≤ 2147483647) : jT [x0, x1, x2, x3, x4] (d + 5) 379 50 1314 [(5, (0, 0)), (4, (4, 3)), (3, (4, 2)), (2, (4, 1)), (1, (4, 0)), (0, (6, 0))] [] jpA_2348 4 21 (fun k v hsN => k = 0 ∧ v = (0, 1)) := by
  refine jT_xaload_n (v := (4, 0)) (pcN := 1315) jI_379_1314 rfl rfl rfl ?_
  refine jT_xaload_n (v := (6, 0)) (pcN := 1316) jI_379_1315 rfl rfl rfl ?_
  refine jT_xiload (v := (0, 0)) (pcN := 1318) jI_379_1316 rfl rfl rfl ?_
  refine jT_xiconst (k := 1) (pcN := 1319) jI_379_1318 rfl ?_
  refine jT_xiadd (x := 0) (y := 1) (z := 1) (pcN := 1320) jI_379_1319 rfl (by decide) rfl ?_
  refine jT_adv 1 (pcN := 1321) (LN := [(5, (0, 0)), (4, (4, 3)), (3, (4, 2)), (2, (4, 1)), (1, (4, 0)), (0, (6, 0))]) (stN := [(0, x1), (4, 0)]) (hsN := jpA_2348) (c1 := 0) (s1 := 0) (c2 := 4) (s2 := 21) (by exact rfl) ?_ (by omega) (by omega)
  refine jT_eq (LN := [(5, (0, 0)), (4, (4, 3)), (3, (4, 2)), (2, (4, 1)), (1, (4, 0)), (0, (6, 0))]) (stN := [(0, 2), (4, 0)]) (hsN := [jzA_265, jzA_266, (101, [], [0]), jgh, jgh, jgh, jgh, jgh, jgh, jgh, jgh, jgh, jgh, jzA_79, jzA_322, (100, [], jS0), (100, [], []), jzA_323, jzA_197, jgh, jgh, (101, [], [0, 0, 0, 0, 0, 0]), jgh, jgh, jgh, jgh, jgh, jgh, jgh, jgh, jzA_324, (117, [], [44, 45, 46, 47]), jgh, jgh, jgh, (100, [], (List.replicate 1613 0)), jgh, jgh, jgh, jgh, jgh, jgh, jgh, (4, [(4, 48), (1, 1)], []), jgh, jgh, (7, [(4, 49), (4, (-1)), (4, (-1))], []), jgh, (101, [], [0, 0, 0, 0, 0, 0]), (114, [], [43])]) (rfl) (by simp only [List.cons.injEq, Prod.mk.injEq, and_true, true_and] <;> ((try unfold jw); (try unfold jwl); omega)) (rfl) ?_
  refine jT_xaload_n (v := (6, 0)) (pcN := 1322) jI_379_1321 rfl rfl rfl ?_
  refine jT_xiload (v := (0, 0)) (pcN := 1324) jI_379_1322 rfl rfl rfl ?_
  refine jT_xiconst (k := 2) (pcN := 1325) jI_379_1324 rfl ?_
  refine jT_xiadd (x := 0) (y := 2) (z := 2) (pcN := 1326) jI_379_1325 rfl (by decide) rfl ?_
  refine jT_adv 1 (pcN := 1327) (LN := [(5, (0, 0)), (4, (4, 3)), (3, (4, 2)), (2, (4, 1)), (1, (4, 0)), (0, (6, 0))]) (stN := [(0, x2), (0, 2), (4, 0)]) (hsN := jpA_2348) (c1 := 0) (s1 := 0) (c2 := 4) (s2 := 21) (by exact rfl) ?_ (by omega) (by omega)
  refine jT_eq (LN := [(5, (0, 0)), (4, (4, 3)), (3, (4, 2)), (2, (4, 1)), (1, (4, 0)), (0, (6, 0))]) (stN := [(0, 0), (0, 2), (4, 0)]) (hsN := [jzA_265, jzA_266, (101, [], [0]), jgh, jgh, jgh, jgh, jgh, jgh, jgh, jgh, jgh, jgh, jzA_79, jzA_322, (100, [], jS0), (100, [], []), jzA_323, jzA_197, jgh, jgh, (101, [], [0, 0, 0, 0, 0, 0]), jgh, jgh, jgh, jgh, jgh, jgh, jgh, jgh, jzA_324, (117, [], [44, 45, 46, 47]), jgh, jgh, jgh, (100, [], (List.replicate 1613 0)), jgh, jgh, jgh, jgh, jgh, jgh, jgh, (4, [(4, 48), (1, 1)], []), jgh, jgh, (7, [(4, 49), (4, (-1)), (4, (-1))], []), jgh, (101, [], [0, 0, 0, 0, 0, 0]), (114, [], [43])]) (rfl) (by simp only [List.cons.injEq, Prod.mk.injEq, and_true, true_and] <;> ((try unfold jw); (try unfold jwl); omega)) (rfl) ?_
  refine jT_xaload_n (v := (6, 0)) (pcN := 1328) jI_379_1327 rfl rfl rfl ?_
  refine jT_xiload (v := (0, 0)) (pcN := 1330) jI_379_1328 rfl rfl rfl ?_
  refine jT_xiconst (k := 3) (pcN := 1331) jI_379_1330 rfl ?_
  refine jT_xiadd (x := 0) (y := 3) (z := 3) (pcN := 1332) jI_379_1331 rfl (by decide) rfl ?_
  refine jT_adv 1 (pcN := 1333) (LN := [(5, (0, 0)), (4, (4, 3)), (3, (4, 2)), (2, (4, 1)), (1, (4, 0)), (0, (6, 0))]) (stN := [(0, x3), (0, 0), (0, 2), (4, 0)]) (hsN := jpA_2348) (c1 := 0) (s1 := 0) (c2 := 4) (s2 := 21) (by exact rfl) ?_ (by omega) (by omega)
  refine jT_xaload_n (v := (4, 2)) (pcN := 1334) jI_379_1333 rfl rfl rfl ?_
  refine jT_fB [0, 2, 4, 5, 6, 7, 8, 9, 10, 11, 12, 13, 14, 30, 31, 32, 33, 34, 43, 44, 45, 46, 47, 48, 49] 50 (y := 339) (pcN := 1337) (dC := 4) (bc1 := 4) (bc2 := 21) (c1 := 0) (c2 := 0) (as := [(4, 0), (0, 2), (0, 0), (0, x3), (4, 2)]) (asC := [(4, 0), (0, 2), (0, 0), (0, x3), (4, 1)]) (LN := [(5, (0, 0)), (4, (4, 3)), (3, (4, 2)), (2, (4, 1)), (1, (4, 0)), (0, (6, 0))]) (stN := []) (hsC := jpA_2290) (hsD := jpA_2294) (v := (0, 0)) (st2 := [(0, 0)]) (hs2 := jpA_2349) (jA_339_592 (d := 0) (by omega)) (by rfl) (by rfl) (by decide +kernel) (by rfl) (by rfl) (by omega) (by omega) (by omega) (by omega) rfl (by decide +kernel) ?_
  refine jT_xistore (v := (0, 0)) (LN := [(6, (0, 0)), (5, (0, 0)), (4, (4, 3)), (3, (4, 2)), (2, (4, 1)), (1, (4, 0)), (0, (6, 0))]) (pcN := 1339) jI_379_1337 rfl rfl rfl rfl ?_
  refine jT_xaload_n (v := (4, 1)) (pcN := 1340) jI_379_1339 rfl rfl rfl ?_
  refine jT_xaload_n (v := (6, 0)) (pcN := 1341) jI_379_1340 rfl rfl rfl ?_
  refine jT_xiload (v := (0, 0)) (pcN := 1343) jI_379_1341 rfl rfl rfl ?_
  refine jT_xiconst (k := 1) (pcN := 1344) jI_379_1343 rfl ?_
  refine jT_xiadd (x := 0) (y := 1) (z := 1) (pcN := 1345) jI_379_1344 rfl (by decide) rfl ?_
  refine jT_adv 1 (pcN := 1346) (LN := [(6, (0, 0)), (5, (0, 0)), (4, (4, 3)), (3, (4, 2)), (2, (4, 1)), (1, (4, 0)), (0, (6, 0))]) (stN := [(0, x1), (4, 1)]) (hsN := jpA_2349) (c1 := 0) (s1 := 0) (c2 := 0) (s2 := 0) (by exact rfl) ?_ (by omega) (by omega)
  refine jT_eq (LN := [(6, (0, 0)), (5, (0, 0)), (4, (4, 3)), (3, (4, 2)), (2, (4, 1)), (1, (4, 0)), (0, (6, 0))]) (stN := [(0, 2), (4, 1)]) (hsN := [jzA_2337, jzA_266, (101, [], [0]), jgh, jgh, jgh, jgh, jgh, jgh, jgh, jgh, jgh, jgh, jzA_327, jzA_322, (100, [], jS0), (100, [], []), jzA_323, jzA_197, jgh, jgh, (101, [], [0, 0, 0, 0, 0, 0]), jgh, jgh, jgh, jgh, jgh, jgh, jgh, jgh, jzA_324, (117, [], [44, 45, 46, 47]), jgh, jgh, jgh, (100, [], (List.replicate 1613 0)), jgh, jgh, jgh, jgh, jgh, jgh, jgh, (4, [(4, 48), (1, 1)], []), jgh, jgh, (7, [(4, 49), (4, (-1)), (4, (-1))], []), jgh, (101, [], [0, 0, 0, 0, 0, 0]), (114, [], [43]), (101, [], [0, 0, 0, 0, 0, 0]), (4, [(4, 50), (1, 1)], []), jgh, jzA_2338]) (rfl) (by simp only [List.cons.injEq, Prod.mk.injEq, and_true, true_and] <;> ((try unfold jw); (try unfold jwl); omega)) (rfl) ?_
  refine jT_xaload_n (v := (6, 0)) (pcN := 1347) jI_379_1346 rfl rfl rfl ?_
  refine jT_xiload (v := (0, 0)) (pcN := 1349) jI_379_1347 rfl rfl rfl ?_
  refine jT_xiconst (k := 2) (pcN := 1350) jI_379_1349 rfl ?_
  refine jT_xiadd (x := 0) (y := 2) (z := 2) (pcN := 1351) jI_379_1350 rfl (by decide) rfl ?_
  refine jT_adv 1 (pcN := 1352) (LN := [(6, (0, 0)), (5, (0, 0)), (4, (4, 3)), (3, (4, 2)), (2, (4, 1)), (1, (4, 0)), (0, (6, 0))]) (stN := [(0, x2), (0, 2), (4, 1)]) (hsN := jpA_2349) (c1 := 0) (s1 := 0) (c2 := 0) (s2 := 0) (by exact rfl) ?_ (by omega) (by omega)
  refine jT_eq (LN := [(6, (0, 0)), (5, (0, 0)), (4, (4, 3)), (3, (4, 2)), (2, (4, 1)), (1, (4, 0)), (0, (6, 0))]) (stN := [(0, 0), (0, 2), (4, 1)]) (hsN := [jzA_2337, jzA_266, (101, [], [0]), jgh, jgh, jgh, jgh, jgh, jgh, jgh, jgh, jgh, jgh, jzA_327, jzA_322, (100, [], jS0), (100, [], []), jzA_323, jzA_197, jgh, jgh, (101, [], [0, 0, 0, 0, 0, 0]), jgh, jgh, jgh, jgh, jgh, jgh, jgh, jgh, jzA_324, (117, [], [44, 45, 46, 47]), jgh, jgh, jgh, (100, [], (List.replicate 1613 0)), jgh, jgh, jgh, jgh, jgh, jgh, jgh, (4, [(4, 48), (1, 1)], []), jgh, jgh, (7, [(4, 49), (4, (-1)), (4, (-1))], []), jgh, (101, [], [0, 0, 0, 0, 0, 0]), (114, [], [43]), (101, [], [0, 0, 0, 0, 0, 0]), (4, [(4, 50), (1, 1)], []), jgh, jzA_2338]) (rfl) (by simp only [List.cons.injEq, Prod.mk.injEq, and_true, true_and] <;> ((try unfold jw); (try unfold jwl); omega)) (rfl) ?_
  refine jT_xaload_n (v := (6, 0)) (pcN := 1353) jI_379_1352 rfl rfl rfl ?_
  refine jT_xiload (v := (0, 0)) (pcN := 1355) jI_379_1353 rfl rfl rfl ?_
  refine jT_xiconst (k := 3) (pcN := 1356) jI_379_1355 rfl ?_
  refine jT_xiadd (x := 0) (y := 3) (z := 3) (pcN := 1357) jI_379_1356 rfl (by decide) rfl ?_
  refine jT_adv 1 (pcN := 1358) (LN := [(6, (0, 0)), (5, (0, 0)), (4, (4, 3)), (3, (4, 2)), (2, (4, 1)), (1, (4, 0)), (0, (6, 0))]) (stN := [(0, x3), (0, 0), (0, 2), (4, 1)]) (hsN := jpA_2349) (c1 := 0) (s1 := 0) (c2 := 0) (s2 := 0) (by exact rfl) ?_ (by omega) (by omega)
  refine jT_fB [1, 15, 16, 17, 18, 19, 20, 21, 22, 23, 24, 25, 26, 27, 28, 29, 35, 36, 37, 38, 39, 40, 41, 42] 54 (y := 252) (pcN := 1361) (dC := 2) (bc1 := 0) (bc2 := 0) (c1 := 0) (c2 := 0) (as := [(4, 1), (0, 2), (0, 0), (0, x3)]) (asC := [(4, 0), (0, 2), (0, 0), (0, x3)]) (LN := [(6, (0, 0)), (5, (0, 0)), (4, (4, 3)), (3, (4, 2)), (2, (4, 1)), (1, (4, 0)), (0, (6, 0))]) (stN := []) (hsC := jpA_248) (hsD := [jzA_200, (100, [], ((((((((((((((jS0).set ((7 * x3).toNat) 0)).set ((7 * x3 + 1).toNat) 0)).set ((7 * x3 + 2).toNat) 0)).set ((7 * x3 + 3).toNat) 0)).set ((7 * x3 + 4).toNat) 0)).set ((7 * x3 + 5).toNat) 0)).set ((7 * x3 + 6).toNat) 1)), (100, [], []), jzA_196, jzA_201, jgh, jgh, (101, [], [0, 0, 0, 0, 0, 0]), jgh, jgh, jgh, jgh, jgh, jgh, jgh, jgh, (100, [], jS0), jgh, jgh, jgh, jgh, jgh, jgh, jgh]) (v := (0, 0)) (st2 := [(0, 0)]) (hs2 := [jzA_2337, jzA_330, (101, [], [0]), jgh, jgh, jgh, jgh, jgh, jgh, jgh, jgh, jgh, jgh, jzA_327, jzA_322, (100, [], ((((((((((((((jS0).set ((7 * x3).toNat) 0)).set ((7 * x3 + 1).toNat) 0)).set ((7 * x3 + 2).toNat) 0)).set ((7 * x3 + 3).toNat) 0)).set ((7 * x3 + 4).toNat) 0)).set ((7 * x3 + 5).toNat) 0)).set ((7 * x3 + 6).toNat) 1)), (100, [], []), jzA_323, jzA_331, jgh, jgh, (101, [], [0, 0, 0, 0, 0, 0]), jgh, jgh, jgh, jgh, jgh, jgh, jgh, jgh, jzA_324, (117, [], [44, 45, 46, 47]), jgh, jgh, jgh, (100, [], jS0), jgh, jgh, jgh, jgh, jgh, jgh, jgh, (4, [(4, 48), (1, 1)], []), jgh, jgh, (7, [(4, 49), (4, (-1)), (4, (-1))], []), jgh, (101, [], [0, 0, 0, 0, 0, 0]), (114, [], [43]), (101, [], [0, 0, 0, 0, 0, 0]), (4, [(4, 50), (1, 1)], []), jgh, jzA_2338]) (jA_252_593 (d := 0) (by omega)) (by rfl) (by rfl) (by decide +kernel) (by rfl) (by rfl) (by omega) (by omega) (by omega) (by omega) rfl rfl ?_
  refine jT_xistore (v := (0, 0)) (LN := [(7, (0, 0)), (6, (0, 0)), (5, (0, 0)), (4, (4, 3)), (3, (4, 2)), (2, (4, 1)), (1, (4, 0)), (0, (6, 0))]) (pcN := 1363) jI_379_1361 rfl rfl rfl rfl ?_
  refine jT_xaload_n (v := (4, 1)) (pcN := 1364) jI_379_1363 rfl rfl rfl ?_
  refine jT_callA [1, 15, 16, 17, 18, 19, 20, 21, 22, 23, 24, 25, 26, 27, 28, 29] (y := 186) (pcN := 1367) (dC := 0) (bc1 := 0) (bc2 := 0) (c1 := 0) (c2 := 0) (as := [(4, 1)]) (asC := [(4, 0)]) (LN := [(7, (0, 0)), (6, (0, 0)), (5, (0, 0)), (4, (4, 3)), (3, (4, 2)), (2, (4, 1)), (1, (4, 0)), (0, (6, 0))]) (stN := []) (hsC := jpA_258) (ex := []) (v := (0, 0)) (st2 := [(0, 0)]) (hs2 := [jzA_2337, jzA_330, (101, [], [0]), jgh, jgh, jgh, jgh, jgh, jgh, jgh, jgh, jgh, jgh, jzA_327, jzA_322, (100, [], ((((((((((((((jS0).set ((7 * x3).toNat) 0)).set ((7 * x3 + 1).toNat) 0)).set ((7 * x3 + 2).toNat) 0)).set ((7 * x3 + 3).toNat) 0)).set ((7 * x3 + 4).toNat) 0)).set ((7 * x3 + 5).toNat) 0)).set ((7 * x3 + 6).toNat) 1)), (100, [], []), jzA_323, jzA_331, jgh, jgh, (101, [], [0, 0, 0, 0, 0, 0]), jgh, jgh, jgh, jgh, jgh, jgh, jgh, jgh, jzA_324, (117, [], [44, 45, 46, 47]), jgh, jgh, jgh, (100, [], jS0), jgh, jgh, jgh, jgh, jgh, jgh, jgh, (4, [(4, 48), (1, 1)], []), jgh, jgh, (7, [(4, 49), (4, (-1)), (4, (-1))], []), jgh, (101, [], [0, 0, 0, 0, 0, 0]), (114, [], [43]), (101, [], [0, 0, 0, 0, 0, 0]), (4, [(4, 50), (1, 1)], []), jgh, jzA_2338]) (jA_186_54 (d := 0)) (by rfl) (by rfl) (by rfl) (by rfl) ⟨rfl, rfl, rfl, rfl, rfl, rfl, rfl, rfl, rfl, rfl, rfl, rfl, rfl, rfl, rfl, rfl, trivial⟩ (by rfl) (by rfl) (by omega) (by show 50 ≤ 54; omega) (by omega) (by omega) rfl rfl ?_
  refine jT_xiload (v := (0, 0)) (pcN := 1369) jI_379_1367 rfl rfl rfl ?_
  refine jT_xicT (pcN := 1374) jI_379_1369 rfl (by decide +kernel) rfl ?_
  refine jT_xiload (v := (0, 0)) (pcN := 1376) jI_379_1374 rfl rfl rfl ?_
  refine jT_xifF (t := 1391) (pcN := 1379) jI_379_1376 rfl (by decide +kernel) rfl rfl ?_
  refine jT_xaload_n (v := (4, 2)) (pcN := 1380) jI_379_1379 rfl rfl rfl ?_
  refine jT_xiconst (k := 0) (pcN := 1381) jI_379_1380 rfl ?_
  refine jT_lald (x := 0) (a := 2) (j := 0) (fs := []) (X := [0]) jI_379_1381 rfl rfl rfl rfl ?_
  refine jT_eq (LN := [(7, (0, 0)), (6, (0, 0)), (5, (0, 0)), (4, (4, 3)), (3, (4, 2)), (2, (4, 1)), (1, (4, 0)), (0, (6, 0))]) (stN := [(1, 0)]) (hsN := [jzA_2337, jzA_330, (101, [], [0]), jgh, jgh, jgh, jgh, jgh, jgh, jgh, jgh, jgh, jgh, jzA_327, jzA_322, (100, [], ((((((((((((((jS0).set ((7 * x3).toNat) 0)).set ((7 * x3 + 1).toNat) 0)).set ((7 * x3 + 2).toNat) 0)).set ((7 * x3 + 3).toNat) 0)).set ((7 * x3 + 4).toNat) 0)).set ((7 * x3 + 5).toNat) 0)).set ((7 * x3 + 6).toNat) 1)), (100, [], []), jzA_323, jzA_331, jgh, jgh, (101, [], [0, 0, 0, 0, 0, 0]), jgh, jgh, jgh, jgh, jgh, jgh, jgh, jgh, jzA_324, (117, [], [44, 45, 46, 47]), jgh, jgh, jgh, (100, [], jS0), jgh, jgh, jgh, jgh, jgh, jgh, jgh, (4, [(4, 48), (1, 1)], []), jgh, jgh, (7, [(4, 49), (4, (-1)), (4, (-1))], []), jgh, (101, [], [0, 0, 0, 0, 0, 0]), (114, [], [43]), (101, [], [0, 0, 0, 0, 0, 0]), (4, [(4, 50), (1, 1)], []), jgh, jzA_2338]) rfl rfl rfl ?_
  refine jT_xiload (v := (0, 0)) (pcN := 1384) jI_379_1382 rfl rfl rfl ?_
  refine jT_xi2l (x := 0) (z := 0) (pcN := 1385) jI_379_1384 rfl (by decide +kernel) rfl ?_
  refine jT_lcmp (a := 0) (b := 0) (z := 0) (by rfl) (by rfl) (by decide +kernel) (by decide +kernel) (by decide) ?_
  refine jT_xifT (pcN := 1391) jI_379_1386 rfl (by decide +kernel) rfl ?_
  refine jT_xgoto (pcN := 3740) jI_379_1391 rfl ?_
  refine jT_xiinc (x := 0) (z := 5) (LN := [(5, (0, 5)), (7, (0, 0)), (6, (0, 0)), (4, (4, 3)), (3, (4, 2)), (2, (4, 1)), (1, (4, 0)), (0, (6, 0))]) (pcN := 3743) jI_379_3740 rfl rfl (by decide) rfl rfl ?_
  refine jT_xgoto (pcN := 28) jI_379_3743 rfl ?_
  refine jT_xiload (v := (0, 5)) (pcN := 30) jI_379_28 rfl rfl rfl ?_
  refine jT_xaload_n (v := (6, 0)) (pcN := 31) jI_379_30 rfl rfl rfl ?_
  refine jT_adv 1 (pcN := 32) (LN := [(5, (0, 5)), (7, (0, 0)), (6, (0, 0)), (4, (4, 3)), (3, (4, 2)), (2, (4, 1)), (1, (4, 0)), (0, (6, 0))]) (stN := [(0, 5), (0, 5)]) (hsN := [jzA_2337, jzA_330, (101, [], [0]), jgh, jgh, jgh, jgh, jgh, jgh, jgh, jgh, jgh, jgh, jzA_327, jzA_322, (100, [], ((((((((((((((jS0).set ((7 * x3).toNat) 0)).set ((7 * x3 + 1).toNat) 0)).set ((7 * x3 + 2).toNat) 0)).set ((7 * x3 + 3).toNat) 0)).set ((7 * x3 + 4).toNat) 0)).set ((7 * x3 + 5).toNat) 0)).set ((7 * x3 + 6).toNat) 1)), (100, [], []), jzA_323, jzA_331, jgh, jgh, (101, [], [0, 0, 0, 0, 0, 0]), jgh, jgh, jgh, jgh, jgh, jgh, jgh, jgh, jzA_324, (117, [], [44, 45, 46, 47]), jgh, jgh, jgh, (100, [], jS0), jgh, jgh, jgh, jgh, jgh, jgh, jgh, (4, [(4, 48), (1, 1)], []), jgh, jgh, (7, [(4, 49), (4, (-1)), (4, (-1))], []), jgh, (101, [], [0, 0, 0, 0, 0, 0]), (114, [], [43]), (101, [], [0, 0, 0, 0, 0, 0]), (4, [(4, 50), (1, 1)], []), jgh, jzA_2338]) (c1 := 0) (s1 := 0) (c2 := 0) (s2 := 0) (by exact rfl) ?_ (by omega) (by omega)
  refine jT_xiconst (k := 5) (pcN := 33) jI_379_32 rfl ?_
  refine jT_xisub (x := 5) (y := 5) (z := 0) (pcN := 34) jI_379_33 rfl (by decide) rfl ?_
  refine jT_xicT (pcN := 3746) jI_379_34 rfl (by decide +kernel) rfl ?_
  refine jT_xiconst (k := 1) (pcN := 3747) jI_379_3746 rfl ?_
  exact jT_ret rfl (by decide) (by show 50 ≤ 54; decide) (by omega) (by omega) ⟨rfl, rfl⟩
set_option maxRecDepth 100000 in
theorem jL_13_11 {d : Nat} {x0 x1 x2 x3 x4 : Int} (h_x0 : (-2147483648) ≤ x0 ∧ x0 ≤ 2147483647) (h_x1 : 2 ≤ x1 ∧ x1 ≤ 2) (h_x2 : 1 ≤ x2 ∧ x2 ≤ 200) (h_x3 : 0 ≤ x3 ∧ x3 ≤ 7) (h_x4 : (-2147483648) ≤ x4 ∧ x4 ≤ 2147483647) : jT [x0, x1, x2, x3, x4] (d + 5) 379 50 1314 [(5, (0, 0)), (4, (4, 3)), (3, (4, 2)), (2, (4, 1)), (1, (4, 0)), (0, (6, 0))] [] jpA_2348 4 21 (fun k v hsN => k = 0 ∧ v = (0, 1)) := by
  refine jT_xaload_n (v := (4, 0)) (pcN := 1315) jI_379_1314 rfl rfl rfl ?_
  refine jT_xaload_n (v := (6, 0)) (pcN := 1316) jI_379_1315 rfl rfl rfl ?_
  refine jT_xiload (v := (0, 0)) (pcN := 1318) jI_379_1316 rfl rfl rfl ?_
  refine jT_xiconst (k := 1) (pcN := 1319) jI_379_1318 rfl ?_
  refine jT_xiadd (x := 0) (y := 1) (z := 1) (pcN := 1320) jI_379_1319 rfl (by decide) rfl ?_
  refine jT_adv 1 (pcN := 1321) (LN := [(5, (0, 0)), (4, (4, 3)), (3, (4, 2)), (2, (4, 1)), (1, (4, 0)), (0, (6, 0))]) (stN := [(0, x1), (4, 0)]) (hsN := jpA_2348) (c1 := 0) (s1 := 0) (c2 := 4) (s2 := 21) (by exact rfl) ?_ (by omega) (by omega)
  refine jT_eq (LN := [(5, (0, 0)), (4, (4, 3)), (3, (4, 2)), (2, (4, 1)), (1, (4, 0)), (0, (6, 0))]) (stN := [(0, 2), (4, 0)]) (hsN := [jzA_265, jzA_266, (101, [], [0]), jgh, jgh, jgh, jgh, jgh, jgh, jgh, jgh, jgh, jgh, jzA_79, jzA_322, (100, [], jS0), (100, [], []), jzA_323, jzA_197, jgh, jgh, (101, [], [0, 0, 0, 0, 0, 0]), jgh, jgh, jgh, jgh, jgh, jgh, jgh, jgh, jzA_324, (117, [], [44, 45, 46, 47]), jgh, jgh, jgh, (100, [], (List.replicate 1613 0)), jgh, jgh, jgh, jgh, jgh, jgh, jgh, (4, [(4, 48), (1, 1)], []), jgh, jgh, (7, [(4, 49), (4, (-1)), (4, (-1))], []), jgh, (101, [], [0, 0, 0, 0, 0, 0]), (114, [], [43])]) (rfl) (by simp only [List.cons.injEq, Prod.mk.injEq, and_true, true_and] <;> ((try unfold jw); (try unfold jwl); omega)) (rfl) ?_
  refine jT_xaload_n (v := (6, 0)) (pcN := 1322) jI_379_1321 rfl rfl rfl ?_
  refine jT_xiload (v := (0, 0)) (pcN := 1324) jI_379_1322 rfl rfl rfl ?_
  refine jT_xiconst (k := 2) (pcN := 1325) jI_379_1324 rfl ?_
  refine jT_xiadd (x := 0) (y := 2) (z := 2) (pcN := 1326) jI_379_1325 rfl (by decide) rfl ?_
  refine jT_adv 1 (pcN := 1327) (LN := [(5, (0, 0)), (4, (4, 3)), (3, (4, 2)), (2, (4, 1)), (1, (4, 0)), (0, (6, 0))]) (stN := [(0, x2), (0, 2), (4, 0)]) (hsN := jpA_2348) (c1 := 0) (s1 := 0) (c2 := 4) (s2 := 21) (by exact rfl) ?_ (by omega) (by omega)
  refine jT_xaload_n (v := (6, 0)) (pcN := 1328) jI_379_1327 rfl rfl rfl ?_
  refine jT_xiload (v := (0, 0)) (pcN := 1330) jI_379_1328 rfl rfl rfl ?_
  refine jT_xiconst (k := 3) (pcN := 1331) jI_379_1330 rfl ?_
  refine jT_xiadd (x := 0) (y := 3) (z := 3) (pcN := 1332) jI_379_1331 rfl (by decide) rfl ?_
  refine jT_adv 1 (pcN := 1333) (LN := [(5, (0, 0)), (4, (4, 3)), (3, (4, 2)), (2, (4, 1)), (1, (4, 0)), (0, (6, 0))]) (stN := [(0, x3), (0, x2), (0, 2), (4, 0)]) (hsN := jpA_2348) (c1 := 0) (s1 := 0) (c2 := 4) (s2 := 21) (by exact rfl) ?_ (by omega) (by omega)
  refine jT_xaload_n (v := (4, 2)) (pcN := 1334) jI_379_1333 rfl rfl rfl ?_
  refine jT_fB [0, 2, 4, 5, 6, 7, 8, 9, 10, 11, 12, 13, 14, 30, 31, 32, 33, 34, 43, 44, 45, 46, 47, 48, 49] 50 (y := 339) (pcN := 1337) (dC := 4) (bc1 := 4) (bc2 := 21) (c1 := 0) (c2 := 0) (as := [(4, 0), (0, 2), (0, x2), (0, x3), (4, 2)]) (asC := [(4, 0), (0, 2), (0, x2), (0, x3), (4, 1)]) (LN := [(5, (0, 0)), (4, (4, 3)), (3, (4, 2)), (2, (4, 1)), (1, (4, 0)), (0, (6, 0))]) (stN := []) (hsC := jpA_2290) (hsD := [jzA_2220, (101, [], [0]), jgh, jgh, jgh, jgh, jgh, jgh, jgh, jgh, jgh, jzA_76, jzA_77, jzA_109, (117, [], [19, 20, 21, 22]), jgh, jgh, jgh, (4, [(4, 23), (1, 1)], []), jgh, jgh, (7, [(4, 24), (4, (-1)), (4, (-1))], []), jgh, (101, [], [0, 0, 0, 0, 0, 0]), (114, [], [18]), (101, [], [x2, 0, 0, 0, 0, 0]), (4, [(4, 25), (1, 1)], []), jgh, jzA_2221]) (v := (0, 0)) (st2 := [(0, 0)]) (hs2 := [jzA_2337, jzA_266, (101, [], [0]), jgh, jgh, jgh, jgh, jgh, jgh, jgh, jgh, jgh, jgh, jzA_327, jzA_322, (100, [], jS0), (100, [], []), jzA_323, jzA_197, jgh, jgh, (101, [], [0, 0, 0, 0, 0, 0]), jgh, jgh, jgh, jgh, jgh, jgh, jgh, jgh, jzA_324, (117, [], [44, 45, 46, 47]), jgh, jgh, jgh, (100, [], (List.replicate 1613 0)), jgh, jgh, jgh, jgh, jgh, jgh, jgh, (4, [(4, 48), (1, 1)], []), jgh, jgh, (7, [(4, 49), (4, (-1)), (4, (-1))], []), jgh, (101, [], [0, 0, 0, 0, 0, 0]), (114, [], [43]), (101, [], [x2, 0, 0, 0, 0, 0]), (4, [(4, 50), (1, 1)], []), jgh, jzA_2338]) (jA_339_595 (d := 0) (by omega) (by omega)) (by rfl) (by rfl) (by decide +kernel) (by rfl) (by rfl) (by omega) (by omega) (by omega) (by omega) rfl rfl ?_
  refine jT_xistore (v := (0, 0)) (LN := [(6, (0, 0)), (5, (0, 0)), (4, (4, 3)), (3, (4, 2)), (2, (4, 1)), (1, (4, 0)), (0, (6, 0))]) (pcN := 1339) jI_379_1337 rfl rfl rfl rfl ?_
  refine jT_xaload_n (v := (4, 1)) (pcN := 1340) jI_379_1339 rfl rfl rfl ?_
  refine jT_xaload_n (v := (6, 0)) (pcN := 1341) jI_379_1340 rfl rfl rfl ?_
  refine jT_xiload (v := (0, 0)) (pcN := 1343) jI_379_1341 rfl rfl rfl ?_
  refine jT_xiconst (k := 1) (pcN := 1344) jI_379_1343 rfl ?_
  refine jT_xiadd (x := 0) (y := 1) (z := 1) (pcN := 1345) jI_379_1344 rfl (by decide) rfl ?_
  refine jT_adv 1 (pcN := 1346) (LN := [(6, (0, 0)), (5, (0, 0)), (4, (4, 3)), (3, (4, 2)), (2, (4, 1)), (1, (4, 0)), (0, (6, 0))]) (stN := [(0, x1), (4, 1)]) (hsN := [jzA_2337, jzA_266, (101, [], [0]), jgh, jgh, jgh, jgh, jgh, jgh, jgh, jgh, jgh, jgh, jzA_327, jzA_322, (100, [], jS0), (100, [], []), jzA_323, jzA_197, jgh, jgh, (101, [], [0, 0, 0, 0, 0, 0]), jgh, jgh, jgh, jgh, jgh, jgh, jgh, jgh, jzA_324, (117, [], [44, 45, 46, 47]), jgh, jgh, jgh, (100, [], (List.replicate 1613 0)), jgh, jgh, jgh, jgh, jgh, jgh, jgh, (4, [(4, 48), (1, 1)], []), jgh, jgh, (7, [(4, 49), (4, (-1)), (4, (-1))], []), jgh, (101, [], [0, 0, 0, 0, 0, 0]), (114, [], [43]), (101, [], [x2, 0, 0, 0, 0, 0]), (4, [(4, 50), (1, 1)], []), jgh, jzA_2338]) (c1 := 0) (s1 := 0) (c2 := 0) (s2 := 0) (by exact rfl) ?_ (by omega) (by omega)
  refine jT_eq (LN := [(6, (0, 0)), (5, (0, 0)), (4, (4, 3)), (3, (4, 2)), (2, (4, 1)), (1, (4, 0)), (0, (6, 0))]) (stN := [(0, 2), (4, 1)]) (hsN := [jzA_2337, jzA_266, (101, [], [0]), jgh, jgh, jgh, jgh, jgh, jgh, jgh, jgh, jgh, jgh, jzA_327, jzA_322, (100, [], jS0), (100, [], []), jzA_323, jzA_197, jgh, jgh, (101, [], [0, 0, 0, 0, 0, 0]), jgh, jgh, jgh, jgh, jgh, jgh, jgh, jgh, jzA_324, (117, [], [44, 45, 46, 47]), jgh, jgh, jgh, (100, [], (List.replicate 1613 0)), jgh, jgh, jgh, jgh, jgh, jgh, jgh, (4, [(4, 48), (1, 1)], []), jgh, jgh, (7, [(4, 49), (4, (-1)), (4, (-1))], []), jgh, (101, [], [0, 0, 0, 0, 0, 0]), (114, [], [43]), (101, [], [x2, 0, 0, 0, 0, 0]), (4, [(4, 50), (1, 1)], []), jgh, jzA_2338]) (rfl) (by simp only [List.cons.injEq, Prod.mk.injEq, and_true, true_and] <;> ((try unfold jw); (try unfold jwl); omega)) (rfl) ?_
  refine jT_xaload_n (v := (6, 0)) (pcN := 1347) jI_379_1346 rfl rfl rfl ?_
  refine jT_xiload (v := (0, 0)) (pcN := 1349) jI_379_1347 rfl rfl rfl ?_
  refine jT_xiconst (k := 2) (pcN := 1350) jI_379_1349 rfl ?_
  refine jT_xiadd (x := 0) (y := 2) (z := 2) (pcN := 1351) jI_379_1350 rfl (by decide) rfl ?_
  refine jT_adv 1 (pcN := 1352) (LN := [(6, (0, 0)), (5, (0, 0)), (4, (4, 3)), (3, (4, 2)), (2, (4, 1)), (1, (4, 0)), (0, (6, 0))]) (stN := [(0, x2), (0, 2), (4, 1)]) (hsN := [jzA_2337, jzA_266, (101, [], [0]), jgh, jgh, jgh, jgh, jgh, jgh, jgh, jgh, jgh, jgh, jzA_327, jzA_322, (100, [], jS0), (100, [], []), jzA_323, jzA_197, jgh, jgh, (101, [], [0, 0, 0, 0, 0, 0]), jgh, jgh, jgh, jgh, jgh, jgh, jgh, jgh, jzA_324, (117, [], [44, 45, 46, 47]), jgh, jgh, jgh, (100, [], (List.replicate 1613 0)), jgh, jgh, jgh, jgh, jgh, jgh, jgh, (4, [(4, 48), (1, 1)], []), jgh, jgh, (7, [(4, 49), (4, (-1)), (4, (-1))], []), jgh, (101, [], [0, 0, 0, 0, 0, 0]), (114, [], [43]), (101, [], [x2, 0, 0, 0, 0, 0]), (4, [(4, 50), (1, 1)], []), jgh, jzA_2338]) (c1 := 0) (s1 := 0) (c2 := 0) (s2 := 0) (by exact rfl) ?_ (by omega) (by omega)
  refine jT_xaload_n (v := (6, 0)) (pcN := 1353) jI_379_1352 rfl rfl rfl ?_
  refine jT_xiload (v := (0, 0)) (pcN := 1355) jI_379_1353 rfl rfl rfl ?_
  refine jT_xiconst (k := 3) (pcN := 1356) jI_379_1355 rfl ?_
  refine jT_xiadd (x := 0) (y := 3) (z := 3) (pcN := 1357) jI_379_1356 rfl (by decide) rfl ?_
  refine jT_adv 1 (pcN := 1358) (LN := [(6, (0, 0)), (5, (0, 0)), (4, (4, 3)), (3, (4, 2)), (2, (4, 1)), (1, (4, 0)), (0, (6, 0))]) (stN := [(0, x3), (0, x2), (0, 2), (4, 1)]) (hsN := [jzA_2337, jzA_266, (101, [], [0]), jgh, jgh, jgh, jgh, jgh, jgh, jgh, jgh, jgh, jgh, jzA_327, jzA_322, (100, [], jS0), (100, [], []), jzA_323, jzA_197, jgh, jgh, (101, [], [0, 0, 0, 0, 0, 0]), jgh, jgh, jgh, jgh, jgh, jgh, jgh, jgh, jzA_324, (117, [], [44, 45, 46, 47]), jgh, jgh, jgh, (100, [], (List.replicate 1613 0)), jgh, jgh, jgh, jgh, jgh, jgh, jgh, (4, [(4, 48), (1, 1)], []), jgh, jgh, (7, [(4, 49), (4, (-1)), (4, (-1))], []), jgh, (101, [], [0, 0, 0, 0, 0, 0]), (114, [], [43]), (101, [], [x2, 0, 0, 0, 0, 0]), (4, [(4, 50), (1, 1)], []), jgh, jzA_2338]) (c1 := 0) (s1 := 0) (c2 := 0) (s2 := 0) (by exact rfl) ?_ (by omega) (by omega)
  refine jT_callB [1, 15, 16, 17, 18, 19, 20, 21, 22, 23, 24, 25, 26, 27, 28, 29, 35, 36, 37, 38, 39, 40, 41, 42] (y := 252) (pcN := 1361) (dC := 2) (bc1 := 0) (bc2 := 0) (c1 := 0) (c2 := 0) (as := [(4, 1), (0, 2), (0, x2), (0, x3)]) (asC := [(4, 0), (0, 2), (0, x2), (0, x3)]) (LN := [(6, (0, 0)), (5, (0, 0)), (4, (4, 3)), (3, (4, 2)), (2, (4, 1)), (1, (4, 0)), (0, (6, 0))]) (stN := []) (hsC := jpA_248) (hsD := [jzA_200, (100, [], ((((((((((((((jS0).set ((7 * x3).toNat) x2)).set ((7 * x3 + 1).toNat) 0)).set ((7 * x3 + 2).toNat) 0)).set ((7 * x3 + 3).toNat) 0)).set ((7 * x3 + 4).toNat) 0)).set ((7 * x3 + 5).toNat) 0)).set ((7 * x3 + 6).toNat) 1)), (100, [], []), jzA_196, jzA_201, jgh, jgh, (101, [], [x2, 0, 0, 0, 0, 0]), jgh, jgh, jgh, jgh, jgh, jgh, jgh, jgh, (100, [], jS0), jgh, jgh, jgh, jgh, jgh, jgh, jgh]) (v := (0, 0)) (st2 := [(0, 0)]) (hs2 := [jzA_2337, jzA_330, (101, [], [0]), jgh, jgh, jgh, jgh, jgh, jgh, jgh, jgh, jgh, jgh, jzA_327, jzA_322, (100, [], ((((((((((((((jS0).set ((7 * x3).toNat) x2)).set ((7 * x3 + 1).toNat) 0)).set ((7 * x3 + 2).toNat) 0)).set ((7 * x3 + 3).toNat) 0)).set ((7 * x3 + 4).toNat) 0)).set ((7 * x3 + 5).toNat) 0)).set ((7 * x3 + 6).toNat) 1)), (100, [], []), jzA_323, jzA_331, jgh, jgh, (101, [], [x2, 0, 0, 0, 0, 0]), jgh, jgh, jgh, jgh, jgh, jgh, jgh, jgh, jzA_324, (117, [], [44, 45, 46, 47]), jgh, jgh, jgh, (100, [], jS0), jgh, jgh, jgh, jgh, jgh, jgh, jgh, (4, [(4, 48), (1, 1)], []), jgh, jgh, (7, [(4, 49), (4, (-1)), (4, (-1))], []), jgh, (101, [], [0, 0, 0, 0, 0, 0]), (114, [], [43]), (101, [], [x2, 0, 0, 0, 0, 0]), (4, [(4, 50), (1, 1)], []), jgh, jzA_2338]) (jA_252_596 (d := 0) (by omega) (by omega)) (by rfl) (by rfl) (by rfl) (by rfl) ⟨rfl, rfl, rfl, rfl, rfl, rfl, rfl, rfl, rfl, rfl, rfl, rfl, rfl, rfl, rfl, rfl, rfl, rfl, rfl, rfl, rfl, rfl, rfl, rfl, trivial⟩ (by rfl) (by rfl) (by omega) (by show 50 ≤ 54; omega) (by omega) (by omega) rfl rfl ?_
  refine jT_xistore (v := (0, 0)) (LN := [(7, (0, 0)), (6, (0, 0)), (5, (0, 0)), (4, (4, 3)), (3, (4, 2)), (2, (4, 1)), (1, (4, 0)), (0, (6, 0))]) (pcN := 1363) jI_379_1361 rfl rfl rfl rfl ?_
  refine jT_xaload_n (v := (4, 1)) (pcN := 1364) jI_379_1363 rfl rfl rfl ?_
  refine jT_callA [1, 15, 16, 17, 18, 19, 20, 21, 22, 23, 24, 25, 26, 27, 28, 29] (y := 186) (pcN := 1367) (dC := 0) (bc1 := 0) (bc2 := 0) (c1 := 0) (c2 := 0) (as := [(4, 1)]) (asC := [(4, 0)]) (LN := [(7, (0, 0)), (6, (0, 0)), (5, (0, 0)), (4, (4, 3)), (3, (4, 2)), (2, (4, 1)), (1, (4, 0)), (0, (6, 0))]) (stN := []) (hsC := jpA_258) (ex := []) (v := (0, 0)) (st2 := [(0, 0)]) (hs2 := [jzA_2337, jzA_330, (101, [], [0]), jgh, jgh, jgh, jgh, jgh, jgh, jgh, jgh, jgh, jgh, jzA_327, jzA_322, (100, [], ((((((((((((((jS0).set ((7 * x3).toNat) x2)).set ((7 * x3 + 1).toNat) 0)).set ((7 * x3 + 2).toNat) 0)).set ((7 * x3 + 3).toNat) 0)).set ((7 * x3 + 4).toNat) 0)).set ((7 * x3 + 5).toNat) 0)).set ((7 * x3 + 6).toNat) 1)), (100, [], []), jzA_323, jzA_331, jgh, jgh, (101, [], [x2, 0, 0, 0, 0, 0]), jgh, jgh, jgh, jgh, jgh, jgh, jgh, jgh, jzA_324, (117, [], [44, 45, 46, 47]), jgh, jgh, jgh, (100, [], jS0), jgh, jgh, jgh, jgh, jgh, jgh, jgh, (4, [(4, 48), (1, 1)], []), jgh, jgh, (7, [(4, 49), (4, (-1)), (4, (-1))], []), jgh, (101, [], [0, 0, 0, 0, 0, 0]), (114, [], [43]), (101, [], [x2, 0, 0, 0, 0, 0]), (4, [(4, 50), (1, 1)], []), jgh, jzA_2338]) (jA_186_54 (d := 0)) (by rfl) (by rfl) (by rfl) (by rfl) ⟨rfl, rfl, rfl, rfl, rfl, rfl, rfl, rfl, rfl, rfl, rfl, rfl, rfl, rfl, rfl, rfl, trivial⟩ (by rfl) (by rfl) (by omega) (by show 50 ≤ 54; omega) (by omega) (by omega) rfl rfl ?_
  refine jT_xiload (v := (0, 0)) (pcN := 1369) jI_379_1367 rfl rfl rfl ?_
  refine jT_xicT (pcN := 1374) jI_379_1369 rfl (by decide +kernel) rfl ?_
  refine jT_xiload (v := (0, 0)) (pcN := 1376) jI_379_1374 rfl rfl rfl ?_
  refine jT_xifF (t := 1391) (pcN := 1379) jI_379_1376 rfl (by decide +kernel) rfl rfl ?_
  refine jT_xaload_n (v := (4, 2)) (pcN := 1380) jI_379_1379 rfl rfl rfl ?_
  refine jT_xiconst (k := 0) (pcN := 1381) jI_379_1380 rfl ?_
  refine jT_lald (x := 0) (a := 2) (j := 0) (fs := []) (X := [0]) jI_379_1381 rfl rfl rfl rfl ?_
  refine jT_eq (LN := [(7, (0, 0)), (6, (0, 0)), (5, (0, 0)), (4, (4, 3)), (3, (4, 2)), (2, (4, 1)), (1, (4, 0)), (0, (6, 0))]) (stN := [(1, 0)]) (hsN := [jzA_2337, jzA_330, (101, [], [0]), jgh, jgh, jgh, jgh, jgh, jgh, jgh, jgh, jgh, jgh, jzA_327, jzA_322, (100, [], ((((((((((((((jS0).set ((7 * x3).toNat) x2)).set ((7 * x3 + 1).toNat) 0)).set ((7 * x3 + 2).toNat) 0)).set ((7 * x3 + 3).toNat) 0)).set ((7 * x3 + 4).toNat) 0)).set ((7 * x3 + 5).toNat) 0)).set ((7 * x3 + 6).toNat) 1)), (100, [], []), jzA_323, jzA_331, jgh, jgh, (101, [], [x2, 0, 0, 0, 0, 0]), jgh, jgh, jgh, jgh, jgh, jgh, jgh, jgh, jzA_324, (117, [], [44, 45, 46, 47]), jgh, jgh, jgh, (100, [], jS0), jgh, jgh, jgh, jgh, jgh, jgh, jgh, (4, [(4, 48), (1, 1)], []), jgh, jgh, (7, [(4, 49), (4, (-1)), (4, (-1))], []), jgh, (101, [], [0, 0, 0, 0, 0, 0]), (114, [], [43]), (101, [], [x2, 0, 0, 0, 0, 0]), (4, [(4, 50), (1, 1)], []), jgh, jzA_2338]) rfl rfl rfl ?_
  refine jT_xiload (v := (0, 0)) (pcN := 1384) jI_379_1382 rfl rfl rfl ?_
  refine jT_xi2l (x := 0) (z := 0) (pcN := 1385) jI_379_1384 rfl (by decide +kernel) rfl ?_
  refine jT_lcmp (a := 0) (b := 0) (z := 0) (by rfl) (by rfl) (by decide +kernel) (by decide +kernel) (by decide) ?_
  refine jT_xifT (pcN := 1391) jI_379_1386 rfl (by decide +kernel) rfl ?_
  refine jT_xgoto (pcN := 3740) jI_379_1391 rfl ?_
  refine jT_xiinc (x := 0) (z := 5) (LN := [(5, (0, 5)), (7, (0, 0)), (6, (0, 0)), (4, (4, 3)), (3, (4, 2)), (2, (4, 1)), (1, (4, 0)), (0, (6, 0))]) (pcN := 3743) jI_379_3740 rfl rfl (by decide) rfl rfl ?_
  refine jT_xgoto (pcN := 28) jI_379_3743 rfl ?_
  refine jT_xiload (v := (0, 5)) (pcN := 30) jI_379_28 rfl rfl rfl ?_
  refine jT_xaload_n (v := (6, 0)) (pcN := 31) jI_379_30 rfl rfl rfl ?_
  refine jT_adv 1 (pcN := 32) (LN := [(5, (0, 5)), (7, (0, 0)), (6, (0, 0)), (4, (4, 3)), (3, (4, 2)), (2, (4, 1)), (1, (4, 0)), (0, (6, 0))]) (stN := [(0, 5), (0, 5)]) (hsN := [jzA_2337, jzA_330, (101, [], [0]), jgh, jgh, jgh, jgh, jgh, jgh, jgh, jgh, jgh, jgh, jzA_327, jzA_322, (100, [], ((((((((((((((jS0).set ((7 * x3).toNat) x2)).set ((7 * x3 + 1).toNat) 0)).set ((7 * x3 + 2).toNat) 0)).set ((7 * x3 + 3).toNat) 0)).set ((7 * x3 + 4).toNat) 0)).set ((7 * x3 + 5).toNat) 0)).set ((7 * x3 + 6).toNat) 1)), (100, [], []), jzA_323, jzA_331, jgh, jgh, (101, [], [x2, 0, 0, 0, 0, 0]), jgh, jgh, jgh, jgh, jgh, jgh, jgh, jgh, jzA_324, (117, [], [44, 45, 46, 47]), jgh, jgh, jgh, (100, [], jS0), jgh, jgh, jgh, jgh, jgh, jgh, jgh, (4, [(4, 48), (1, 1)], []), jgh, jgh, (7, [(4, 49), (4, (-1)), (4, (-1))], []), jgh, (101, [], [0, 0, 0, 0, 0, 0]), (114, [], [43]), (101, [], [x2, 0, 0, 0, 0, 0]), (4, [(4, 50), (1, 1)], []), jgh, jzA_2338]) (c1 := 0) (s1 := 0) (c2 := 0) (s2 := 0) (by exact rfl) ?_ (by omega) (by omega)
  refine jT_xiconst (k := 5) (pcN := 33) jI_379_32 rfl ?_
  refine jT_xisub (x := 5) (y := 5) (z := 0) (pcN := 34) jI_379_33 rfl (by decide) rfl ?_
  refine jT_xicT (pcN := 3746) jI_379_34 rfl (by decide +kernel) rfl ?_
  refine jT_xiconst (k := 1) (pcN := 3747) jI_379_3746 rfl ?_
  exact jT_ret rfl (by decide) (by show 50 ≤ 54; decide) (by omega) (by omega) ⟨rfl, rfl⟩
def jpA_2350 : List JC := [jzA_265, jzA_266, (101, [], [0]), jgh, jgh, jgh, jgh, jgh, jgh, jgh, jgh, jgh, jgh, jzA_79, jzA_322, (100, [], jS0), (100, [], []), jzA_323, jzA_197, jgh, jgh, (101, [], [0, 0, 0, 0, 0, 0]), jgh, jgh, jgh, jgh, jgh, jgh, jgh, jgh, jzA_324, (117, [], [44, 45, 46, 47]), jgh, jgh, jgh, (100, [], (List.replicate 1613 0)), jgh, jgh, jgh, jgh, jgh, jgh, jgh, (4, [(4, 48), (1, 1)], []), jgh, jgh, jgh, (7, [(4, 49), (4, (-1)), (4, (-1))], []), (101, [], [0, 0, 0, 0, 0, 0]), (114, [], [43])]
set_option maxRecDepth 100000 in
theorem jL_13_12 {d : Nat} {x0 x1 x2 x3 x4 : Int} (h_x0 : (-2147483648) ≤ x0 ∧ x0 ≤ 2147483647) (h_x1 : 3 ≤ x1 ∧ x1 ≤ 3) (h_x2 : (-200) ≤ x2 ∧ x2 ≤ (-1)) (h_x3 : 0 ≤ x3 ∧ x3 ≤ 7) (h_x4 : (-2147483648) ≤ x4 ∧ x4 ≤ 2147483647) : jT [x0, x1, x2, x3, x4] (d + 5) 379 50 1314 [(5, (0, 0)), (4, (4, 3)), (3, (4, 2)), (2, (4, 1)), (1, (4, 0)), (0, (6, 0))] [] jpA_2350 4 21 (fun k v hsN => k = 0 ∧ v = (0, 1)) := by
  refine jT_xaload_n (v := (4, 0)) (pcN := 1315) jI_379_1314 rfl rfl rfl ?_
  refine jT_xaload_n (v := (6, 0)) (pcN := 1316) jI_379_1315 rfl rfl rfl ?_
  refine jT_xiload (v := (0, 0)) (pcN := 1318) jI_379_1316 rfl rfl rfl ?_
  refine jT_xiconst (k := 1) (pcN := 1319) jI_379_1318 rfl ?_
  refine jT_xiadd (x := 0) (y := 1) (z := 1) (pcN := 1320) jI_379_1319 rfl (by decide) rfl ?_
  refine jT_adv 1 (pcN := 1321) (LN := [(5, (0, 0)), (4, (4, 3)), (3, (4, 2)), (2, (4, 1)), (1, (4, 0)), (0, (6, 0))]) (stN := [(0, x1), (4, 0)]) (hsN := jpA_2350) (c1 := 0) (s1 := 0) (c2 := 4) (s2 := 21) (by exact rfl) ?_ (by omega) (by omega)
  refine jT_eq (LN := [(5, (0, 0)), (4, (4, 3)), (3, (4, 2)), (2, (4, 1)), (1, (4, 0)), (0, (6, 0))]) (stN := [(0, 3), (4, 0)]) (hsN := [jzA_265, jzA_266, (101, [], [0]), jgh, jgh, jgh, jgh, jgh, jgh, jgh, jgh, jgh, jgh, jzA_79, jzA_322, (100, [], jS0), (100, [], []), jzA_323, jzA_197, jgh, jgh, (101, [], [0, 0, 0, 0, 0, 0]), jgh, jgh, jgh, jgh, jgh, jgh, jgh, jgh, jzA_324, (117, [], [44, 45, 46, 47]), jgh, jgh, jgh, (100, [], (List.replicate 1613 0)), jgh, jgh, jgh, jgh, jgh, jgh, jgh, (4, [(4, 48), (1, 1)], []), jgh, jgh, jgh, (7, [(4, 49), (4, (-1)), (4, (-1))], []), (101, [], [0, 0, 0, 0, 0, 0]), (114, [], [43])]) (rfl) (by simp only [List.cons.injEq, Prod.mk.injEq, and_true, true_and] <;> ((try unfold jw); (try unfold jwl); omega)) (rfl) ?_
  refine jT_xaload_n (v := (6, 0)) (pcN := 1322) jI_379_1321 rfl rfl rfl ?_
  refine jT_xiload (v := (0, 0)) (pcN := 1324) jI_379_1322 rfl rfl rfl ?_
  refine jT_xiconst (k := 2) (pcN := 1325) jI_379_1324 rfl ?_
  refine jT_xiadd (x := 0) (y := 2) (z := 2) (pcN := 1326) jI_379_1325 rfl (by decide) rfl ?_
  refine jT_adv 1 (pcN := 1327) (LN := [(5, (0, 0)), (4, (4, 3)), (3, (4, 2)), (2, (4, 1)), (1, (4, 0)), (0, (6, 0))]) (stN := [(0, x2), (0, 3), (4, 0)]) (hsN := jpA_2350) (c1 := 0) (s1 := 0) (c2 := 4) (s2 := 21) (by exact rfl) ?_ (by omega) (by omega)
  refine jT_xaload_n (v := (6, 0)) (pcN := 1328) jI_379_1327 rfl rfl rfl ?_
  refine jT_xiload (v := (0, 0)) (pcN := 1330) jI_379_1328 rfl rfl rfl ?_
  refine jT_xiconst (k := 3) (pcN := 1331) jI_379_1330 rfl ?_
  refine jT_xiadd (x := 0) (y := 3) (z := 3) (pcN := 1332) jI_379_1331 rfl (by decide) rfl ?_
  refine jT_adv 1 (pcN := 1333) (LN := [(5, (0, 0)), (4, (4, 3)), (3, (4, 2)), (2, (4, 1)), (1, (4, 0)), (0, (6, 0))]) (stN := [(0, x3), (0, x2), (0, 3), (4, 0)]) (hsN := jpA_2350) (c1 := 0) (s1 := 0) (c2 := 4) (s2 := 21) (by exact rfl) ?_ (by omega) (by omega)
  refine jT_xaload_n (v := (4, 2)) (pcN := 1334) jI_379_1333 rfl rfl rfl ?_
  refine jT_fB [0, 2, 4, 5, 6, 7, 8, 9, 10, 11, 12, 13, 14, 30, 31, 32, 33, 34, 43, 44, 45, 46, 47, 48, 49] 50 (y := 339) (pcN := 1337) (dC := 4) (bc1 := 4) (bc2 := 21) (c1 := 0) (c2 := 0) (as := [(4, 0), (0, 3), (0, x2), (0, x3), (4, 2)]) (asC := [(4, 0), (0, 3), (0, x2), (0, x3), (4, 1)]) (LN := [(5, (0, 0)), (4, (4, 3)), (3, (4, 2)), (2, (4, 1)), (1, (4, 0)), (0, (6, 0))]) (stN := []) (hsC := jpA_2296) (hsD := [jzA_2220, (101, [], [0]), jgh, jgh, jgh, jgh, jgh, jgh, jgh, jgh, jgh, jzA_76, jzA_77, jzA_109, (117, [], [19, 20, 21, 22]), jgh, jgh, jgh, (4, [(4, 23), (1, 1)], []), jgh, jgh, jgh, (7, [(4, 24), (4, (-1)), (4, (-1))], []), (101, [], [0, 0, 0, 0, 0, 0]), (114, [], [18]), (101, [], [x2, 0, 0, 0, 0, 0]), (4, [(4, 25), (1, 1)], []), jgh, jzA_2221]) (v := (0, 0)) (st2 := [(0, 0)]) (hs2 := [jzA_2337, jzA_266, (101, [], [0]), jgh, jgh, jgh, jgh, jgh, jgh, jgh, jgh, jgh, jgh, jzA_327, jzA_322, (100, [], jS0), (100, [], []), jzA_323, jzA_197, jgh, jgh, (101, [], [0, 0, 0, 0, 0, 0]), jgh, jgh, jgh, jgh, jgh, jgh, jgh, jgh, jzA_324, (117, [], [44, 45, 46, 47]), jgh, jgh, jgh, (100, [], (List.replicate 1613 0)), jgh, jgh, jgh, jgh, jgh, jgh, jgh, (4, [(4, 48), (1, 1)], []), jgh, jgh, jgh, (7, [(4, 49), (4, (-1)), (4, (-1))], []), (101, [], [0, 0, 0, 0, 0, 0]), (114, [], [43]), (101, [], [x2, 0, 0, 0, 0, 0]), (4, [(4, 50), (1, 1)], []), jgh, jzA_2338]) (jA_339_598 (d := 0) (by omega) (by omega)) (by rfl) (by rfl) (by decide +kernel) (by rfl) (by rfl) (by omega) (by omega) (by omega) (by omega) rfl rfl ?_
  refine jT_xistore (v := (0, 0)) (LN := [(6, (0, 0)), (5, (0, 0)), (4, (4, 3)), (3, (4, 2)), (2, (4, 1)), (1, (4, 0)), (0, (6, 0))]) (pcN := 1339) jI_379_1337 rfl rfl rfl rfl ?_
  refine jT_xaload_n (v := (4, 1)) (pcN := 1340) jI_379_1339 rfl rfl rfl ?_
  refine jT_xaload_n (v := (6, 0)) (pcN := 1341) jI_379_1340 rfl rfl rfl ?_
  refine jT_xiload (v := (0, 0)) (pcN := 1343) jI_379_1341 rfl rfl rfl ?_
  refine jT_xiconst (k := 1) (pcN := 1344) jI_379_1343 rfl ?_
  refine jT_xiadd (x := 0) (y := 1) (z := 1) (pcN := 1345) jI_379_1344 rfl (by decide) rfl ?_
  refine jT_adv 1 (pcN := 1346) (LN := [(6, (0, 0)), (5, (0, 0)), (4, (4, 3)), (3, (4, 2)), (2, (4, 1)), (1, (4, 0)), (0, (6, 0))]) (stN := [(0, x1), (4, 1)]) (hsN := [jzA_2337, jzA_266, (101, [], [0]), jgh, jgh, jgh, jgh, jgh, jgh, jgh, jgh, jgh, jgh, jzA_327, jzA_322, (100, [], jS0), (100, [], []), jzA_323, jzA_197, jgh, jgh, (101, [], [0, 0, 0, 0, 0, 0]), jgh, jgh, jgh, jgh, jgh, jgh, jgh, jgh, jzA_324, (117, [], [44, 45, 46, 47]), jgh, jgh, jgh, (100, [], (List.replicate 1613 0)), jgh, jgh, jgh, jgh, jgh, jgh, jgh, (4, [(4, 48), (1, 1)], []), jgh, jgh, jgh, (7, [(4, 49), (4, (-1)), (4, (-1))], []), (101, [], [0, 0, 0, 0, 0, 0]), (114, [], [43]), (101, [], [x2, 0, 0, 0, 0, 0]), (4, [(4, 50), (1, 1)], []), jgh, jzA_2338]) (c1 := 0) (s1 := 0) (c2 := 0) (s2 := 0) (by exact rfl) ?_ (by omega) (by omega)
  refine jT_eq (LN := [(6, (0, 0)), (5, (0, 0)), (4, (4, 3)), (3, (4, 2)), (2, (4, 1)), (1, (4, 0)), (0, (6, 0))]) (stN := [(0, 3), (4, 1)]) (hsN := [jzA_2337, jzA_266, (101, [], [0]), jgh, jgh, jgh, jgh, jgh, jgh, jgh, jgh, jgh, jgh, jzA_327, jzA_322, (100, [], jS0), (100, [], []), jzA_323, jzA_197, jgh, jgh, (101, [], [0, 0, 0, 0, 0, 0]), jgh, jgh, jgh, jgh, jgh, jgh, jgh, jgh, jzA_324, (117, [], [44, 45, 46, 47]), jgh, jgh, jgh, (100, [], (List.replicate 1613 0)), jgh, jgh, jgh, jgh, jgh, jgh, jgh, (4, [(4, 48), (1, 1)], []), jgh, jgh, jgh, (7, [(4, 49), (4, (-1)), (4, (-1))], []), (101, [], [0, 0, 0, 0, 0, 0]), (114, [], [43]), (101, [], [x2, 0, 0, 0, 0, 0]), (4, [(4, 50), (1, 1)], []), jgh, jzA_2338]) (rfl) (by simp only [List.cons.injEq, Prod.mk.injEq, and_true, true_and] <;> ((try unfold jw); (try unfold jwl); omega)) (rfl) ?_
  refine jT_xaload_n (v := (6, 0)) (pcN := 1347) jI_379_1346 rfl rfl rfl ?_
  refine jT_xiload (v := (0, 0)) (pcN := 1349) jI_379_1347 rfl rfl rfl ?_
  refine jT_xiconst (k := 2) (pcN := 1350) jI_379_1349 rfl ?_
  refine jT_xiadd (x := 0) (y := 2) (z := 2) (pcN := 1351) jI_379_1350 rfl (by decide) rfl ?_
  refine jT_adv 1 (pcN := 1352) (LN := [(6, (0, 0)), (5, (0, 0)), (4, (4, 3)), (3, (4, 2)), (2, (4, 1)), (1, (4, 0)), (0, (6, 0))]) (stN := [(0, x2), (0, 3), (4, 1)]) (hsN := [jzA_2337, jzA_266, (101, [], [0]), jgh, jgh, jgh, jgh, jgh, jgh, jgh, jgh, jgh, jgh, jzA_327, jzA_322, (100, [], jS0), (100, [], []), jzA_323, jzA_197, jgh, jgh, (101, [], [0, 0, 0, 0, 0, 0]), jgh, jgh, jgh, jgh, jgh, jgh, jgh, jgh, jzA_324, (117, [], [44, 45, 46, 47]), jgh, jgh, jgh, (100, [], (List.replicate 1613 0)), jgh, jgh, jgh, jgh, jgh, jgh, jgh, (4, [(4, 48), (1, 1)], []), jgh, jgh, jgh, (7, [(4, 49), (4, (-1)), (4, (-1))], []), (101, [], [0, 0, 0, 0, 0, 0]), (114, [], [43]), (101, [], [x2, 0, 0, 0, 0, 0]), (4, [(4, 50), (1, 1)], []), jgh, jzA_2338]) (c1 := 0) (s1 := 0) (c2 := 0) (s2 := 0) (by exact rfl) ?_ (by omega) (by omega)
  refine jT_xaload_n (v := (6, 0)) (pcN := 1353) jI_379_1352 rfl rfl rfl ?_
  refine jT_xiload (v := (0, 0)) (pcN := 1355) jI_379_1353 rfl rfl rfl ?_
  refine jT_xiconst (k := 3) (pcN := 1356) jI_379_1355 rfl ?_
  refine jT_xiadd (x := 0) (y := 3) (z := 3) (pcN := 1357) jI_379_1356 rfl (by decide) rfl ?_
  refine jT_adv 1 (pcN := 1358) (LN := [(6, (0, 0)), (5, (0, 0)), (4, (4, 3)), (3, (4, 2)), (2, (4, 1)), (1, (4, 0)), (0, (6, 0))]) (stN := [(0, x3), (0, x2), (0, 3), (4, 1)]) (hsN := [jzA_2337, jzA_266, (101, [], [0]), jgh, jgh, jgh, jgh, jgh, jgh, jgh, jgh, jgh, jgh, jzA_327, jzA_322, (100, [], jS0), (100, [], []), jzA_323, jzA_197, jgh, jgh, (101, [], [0, 0, 0, 0, 0, 0]), jgh, jgh, jgh, jgh, jgh, jgh, jgh, jgh, jzA_324, (117, [], [44, 45, 46, 47]), jgh, jgh, jgh, (100, [], (List.replicate 1613 0)), jgh, jgh, jgh, jgh, jgh, jgh, jgh, (4, [(4, 48), (1, 1)], []), jgh, jgh, jgh, (7, [(4, 49), (4, (-1)), (4, (-1))], []), (101, [], [0, 0, 0, 0, 0, 0]), (114, [], [43]), (101, [], [x2, 0, 0, 0, 0, 0]), (4, [(4, 50), (1, 1)], []), jgh, jzA_2338]) (c1 := 0) (s1 := 0) (c2 := 0) (s2 := 0) (by exact rfl) ?_ (by omega) (by omega)
  refine jT_callB [1, 15, 16, 17, 18, 19, 20, 21, 22, 23, 24, 25, 26, 27, 28, 29, 35, 36, 37, 38, 39, 40, 41, 42] (y := 252) (pcN := 1361) (dC := 2) (bc1 := 0) (bc2 := 0) (c1 := 0) (c2 := 0) (as := [(4, 1), (0, 3), (0, x2), (0, x3)]) (asC := [(4, 0), (0, 3), (0, x2), (0, x3)]) (LN := [(6, (0, 0)), (5, (0, 0)), (4, (4, 3)), (3, (4, 2)), (2, (4, 1)), (1, (4, 0)), (0, (6, 0))]) (stN := []) (hsC := jpA_248) (hsD := [jzA_200, (100, [], ((((((((((((((jS0).set ((7 * x3).toNat) x2)).set ((7 * x3 + 1).toNat) 0)).set ((7 * x3 + 2).toNat) 0)).set ((7 * x3 + 3).toNat) 0)).set ((7 * x3 + 4).toNat) 0)).set ((7 * x3 + 5).toNat) 0)).set ((7 * x3 + 6).toNat) 1)), (100, [], []), jzA_196, jzA_201, jgh, jgh, (101, [], [x2, 0, 0, 0, 0, 0]), jgh, jgh, jgh, jgh, jgh, jgh, jgh, jgh, (100, [], jS0), jgh, jgh, jgh, jgh, jgh, jgh, jgh]) (v := (0, 0)) (st2 := [(0, 0)]) (hs2 := [jzA_2337, jzA_330, (101, [], [0]), jgh, jgh, jgh, jgh, jgh, jgh, jgh, jgh, jgh, jgh, jzA_327, jzA_322, (100, [], ((((((((((((((jS0).set ((7 * x3).toNat) x2)).set ((7 * x3 + 1).toNat) 0)).set ((7 * x3 + 2).toNat) 0)).set ((7 * x3 + 3).toNat) 0)).set ((7 * x3 + 4).toNat) 0)).set ((7 * x3 + 5).toNat) 0)).set ((7 * x3 + 6).toNat) 1)), (100, [], []), jzA_323, jzA_331, jgh, jgh, (101, [], [x2, 0, 0, 0, 0, 0]), jgh, jgh, jgh, jgh, jgh, jgh, jgh, jgh, jzA_324, (117, [], [44, 45, 46, 47]), jgh, jgh, jgh, (100, [], jS0), jgh, jgh, jgh, jgh, jgh, jgh, jgh, (4, [(4, 48), (1, 1)], []), jgh, jgh, jgh, (7, [(4, 49), (4, (-1)), (4, (-1))], []), (101, [], [0, 0, 0, 0, 0, 0]), (114, [], [43]), (101, [], [x2, 0, 0, 0, 0, 0]), (4, [(4, 50), (1, 1)], []), jgh, jzA_2338]) (jA_252_599 (d := 0) (by omega) (by omega)) (by rfl) (by rfl) (by rfl) (by rfl) ⟨rfl, rfl, rfl, rfl, rfl, rfl, rfl, rfl, rfl, rfl, rfl, rfl, rfl, rfl, rfl, rfl, rfl, rfl, rfl, rfl, rfl, rfl, rfl, rfl, trivial⟩ (by rfl) (by rfl) (by omega) (by show 50 ≤ 54; omega) (by omega) (by omega) rfl rfl ?_
  refine jT_xistore (v := (0, 0)) (LN := [(7, (0, 0)), (6, (0, 0)), (5, (0, 0)), (4, (4, 3)), (3, (4, 2)), (2, (4, 1)), (1, (4, 0)), (0, (6, 0))]) (pcN := 1363) jI_379_1361 rfl rfl rfl rfl ?_
  refine jT_xaload_n (v := (4, 1)) (pcN := 1364) jI_379_1363 rfl rfl rfl ?_
  refine jT_callA [1, 15, 16, 17, 18, 19, 20, 21, 22, 23, 24, 25, 26, 27, 28, 29] (y := 186) (pcN := 1367) (dC := 0) (bc1 := 0) (bc2 := 0) (c1 := 0) (c2 := 0) (as := [(4, 1)]) (asC := [(4, 0)]) (LN := [(7, (0, 0)), (6, (0, 0)), (5, (0, 0)), (4, (4, 3)), (3, (4, 2)), (2, (4, 1)), (1, (4, 0)), (0, (6, 0))]) (stN := []) (hsC := jpA_258) (ex := []) (v := (0, 0)) (st2 := [(0, 0)]) (hs2 := [jzA_2337, jzA_330, (101, [], [0]), jgh, jgh, jgh, jgh, jgh, jgh, jgh, jgh, jgh, jgh, jzA_327, jzA_322, (100, [], ((((((((((((((jS0).set ((7 * x3).toNat) x2)).set ((7 * x3 + 1).toNat) 0)).set ((7 * x3 + 2).toNat) 0)).set ((7 * x3 + 3).toNat) 0)).set ((7 * x3 + 4).toNat) 0)).set ((7 * x3 + 5).toNat) 0)).set ((7 * x3 + 6).toNat) 1)), (100, [], []), jzA_323, jzA_331, jgh, jgh, (101, [], [x2, 0, 0, 0, 0, 0]), jgh, jgh, jgh, jgh, jgh, jgh, jgh, jgh, jzA_324, (117, [], [44, 45, 46, 47]), jgh, jgh, jgh, (100, [], jS0), jgh, jgh, jgh, jgh, jgh, jgh, jgh, (4, [(4, 48), (1, 1)], []), jgh, jgh, jgh, (7, [(4, 49), (4, (-1)), (4, (-1))], []), (101, [], [0, 0, 0, 0, 0, 0]), (114, [], [43]), (101, [], [x2, 0, 0, 0, 0, 0]), (4, [(4, 50), (1, 1)], []), jgh, jzA_2338]) (jA_186_54 (d := 0)) (by rfl) (by rfl) (by rfl) (by rfl) ⟨rfl, rfl, rfl, rfl, rfl, rfl, rfl, rfl, rfl, rfl, rfl, rfl, rfl, rfl, rfl, rfl, trivial⟩ (by rfl) (by rfl) (by omega) (by show 50 ≤ 54; omega) (by omega) (by omega) rfl rfl ?_
  refine jT_xiload (v := (0, 0)) (pcN := 1369) jI_379_1367 rfl rfl rfl ?_
  refine jT_xicT (pcN := 1374) jI_379_1369 rfl (by decide +kernel) rfl ?_
  refine jT_xiload (v := (0, 0)) (pcN := 1376) jI_379_1374 rfl rfl rfl ?_
  refine jT_xifF (t := 1391) (pcN := 1379) jI_379_1376 rfl (by decide +kernel) rfl rfl ?_
  refine jT_xaload_n (v := (4, 2)) (pcN := 1380) jI_379_1379 rfl rfl rfl ?_
  refine jT_xiconst (k := 0) (pcN := 1381) jI_379_1380 rfl ?_
  refine jT_lald (x := 0) (a := 2) (j := 0) (fs := []) (X := [0]) jI_379_1381 rfl rfl rfl rfl ?_
  refine jT_eq (LN := [(7, (0, 0)), (6, (0, 0)), (5, (0, 0)), (4, (4, 3)), (3, (4, 2)), (2, (4, 1)), (1, (4, 0)), (0, (6, 0))]) (stN := [(1, 0)]) (hsN := [jzA_2337, jzA_330, (101, [], [0]), jgh, jgh, jgh, jgh, jgh, jgh, jgh, jgh, jgh, jgh, jzA_327, jzA_322, (100, [], ((((((((((((((jS0).set ((7 * x3).toNat) x2)).set ((7 * x3 + 1).toNat) 0)).set ((7 * x3 + 2).toNat) 0)).set ((7 * x3 + 3).toNat) 0)).set ((7 * x3 + 4).toNat) 0)).set ((7 * x3 + 5).toNat) 0)).set ((7 * x3 + 6).toNat) 1)), (100, [], []), jzA_323, jzA_331, jgh, jgh, (101, [], [x2, 0, 0, 0, 0, 0]), jgh, jgh, jgh, jgh, jgh, jgh, jgh, jgh, jzA_324, (117, [], [44, 45, 46, 47]), jgh, jgh, jgh, (100, [], jS0), jgh, jgh, jgh, jgh, jgh, jgh, jgh, (4, [(4, 48), (1, 1)], []), jgh, jgh, jgh, (7, [(4, 49), (4, (-1)), (4, (-1))], []), (101, [], [0, 0, 0, 0, 0, 0]), (114, [], [43]), (101, [], [x2, 0, 0, 0, 0, 0]), (4, [(4, 50), (1, 1)], []), jgh, jzA_2338]) rfl rfl rfl ?_
  refine jT_xiload (v := (0, 0)) (pcN := 1384) jI_379_1382 rfl rfl rfl ?_
  refine jT_xi2l (x := 0) (z := 0) (pcN := 1385) jI_379_1384 rfl (by decide +kernel) rfl ?_
  refine jT_lcmp (a := 0) (b := 0) (z := 0) (by rfl) (by rfl) (by decide +kernel) (by decide +kernel) (by decide) ?_
  refine jT_xifT (pcN := 1391) jI_379_1386 rfl (by decide +kernel) rfl ?_
  refine jT_xgoto (pcN := 3740) jI_379_1391 rfl ?_
  refine jT_xiinc (x := 0) (z := 5) (LN := [(5, (0, 5)), (7, (0, 0)), (6, (0, 0)), (4, (4, 3)), (3, (4, 2)), (2, (4, 1)), (1, (4, 0)), (0, (6, 0))]) (pcN := 3743) jI_379_3740 rfl rfl (by decide) rfl rfl ?_
  refine jT_xgoto (pcN := 28) jI_379_3743 rfl ?_
  refine jT_xiload (v := (0, 5)) (pcN := 30) jI_379_28 rfl rfl rfl ?_
  refine jT_xaload_n (v := (6, 0)) (pcN := 31) jI_379_30 rfl rfl rfl ?_
  refine jT_adv 1 (pcN := 32) (LN := [(5, (0, 5)), (7, (0, 0)), (6, (0, 0)), (4, (4, 3)), (3, (4, 2)), (2, (4, 1)), (1, (4, 0)), (0, (6, 0))]) (stN := [(0, 5), (0, 5)]) (hsN := [jzA_2337, jzA_330, (101, [], [0]), jgh, jgh, jgh, jgh, jgh, jgh, jgh, jgh, jgh, jgh, jzA_327, jzA_322, (100, [], ((((((((((((((jS0).set ((7 * x3).toNat) x2)).set ((7 * x3 + 1).toNat) 0)).set ((7 * x3 + 2).toNat) 0)).set ((7 * x3 + 3).toNat) 0)).set ((7 * x3 + 4).toNat) 0)).set ((7 * x3 + 5).toNat) 0)).set ((7 * x3 + 6).toNat) 1)), (100, [], []), jzA_323, jzA_331, jgh, jgh, (101, [], [x2, 0, 0, 0, 0, 0]), jgh, jgh, jgh, jgh, jgh, jgh, jgh, jgh, jzA_324, (117, [], [44, 45, 46, 47]), jgh, jgh, jgh, (100, [], jS0), jgh, jgh, jgh, jgh, jgh, jgh, jgh, (4, [(4, 48), (1, 1)], []), jgh, jgh, jgh, (7, [(4, 49), (4, (-1)), (4, (-1))], []), (101, [], [0, 0, 0, 0, 0, 0]), (114, [], [43]), (101, [], [x2, 0, 0, 0, 0, 0]), (4, [(4, 50), (1, 1)], []), jgh, jzA_2338]) (c1 := 0) (s1 := 0) (c2 := 0) (s2 := 0) (by exact rfl) ?_ (by omega) (by omega)
  refine jT_xiconst (k := 5) (pcN := 33) jI_379_32 rfl ?_
  refine jT_xisub (x := 5) (y := 5) (z := 0) (pcN := 34) jI_379_33 rfl (by decide) rfl ?_
  refine jT_xicT (pcN := 3746) jI_379_34 rfl (by decide +kernel) rfl ?_
  refine jT_xiconst (k := 1) (pcN := 3747) jI_379_3746 rfl ?_
  exact jT_ret rfl (by decide) (by show 50 ≤ 54; decide) (by omega) (by omega) ⟨rfl, rfl⟩
def jpA_2351 : List JC := [jzA_2337, jzA_266, (101, [], [0]), jgh, jgh, jgh, jgh, jgh, jgh, jgh, jgh, jgh, jgh, jzA_327, jzA_322, (100, [], jS0), (100, [], []), jzA_323, jzA_197, jgh, jgh, (101, [], [0, 0, 0, 0, 0, 0]), jgh, jgh, jgh, jgh, jgh, jgh, jgh, jgh, jzA_324, (117, [], [44, 45, 46, 47]), jgh, jgh, jgh, (100, [], (List.replicate 1613 0)), jgh, jgh, jgh, jgh, jgh, jgh, jgh, (4, [(4, 48), (1, 1)], []), jgh, jgh, jgh, (7, [(4, 49), (4, (-1)), (4, (-1))], []), (101, [], [0, 0, 0, 0, 0, 0]), (114, [], [43]), (101, [], [0, 0, 0, 0, 0, 0]), (4, [(4, 50), (1, 1)], []), jgh, jzA_2338]
set_option maxRecDepth 100000 in
theorem jL_13_13 {d : Nat} {x0 x1 x2 x3 x4 : Int} (h_x0 : (-2147483648) ≤ x0 ∧ x0 ≤ 2147483647) (h_x1 : 3 ≤ x1 ∧ x1 ≤ 3) (h_x2 : 0 ≤ x2 ∧ x2 ≤ 0) (h_x3 : 0 ≤ x3 ∧ x3 ≤ 7) (h_x4 : (-2147483648) ≤ x4 ∧ x4 ≤ 2147483647) : jT [x0, x1, x2, x3, x4] (d + 5) 379 50 1314 [(5, (0, 0)), (4, (4, 3)), (3, (4, 2)), (2, (4, 1)), (1, (4, 0)), (0, (6, 0))] [] jpA_2350 4 21 (fun k v hsN => k = 0 ∧ v = (0, 1)) := by
  refine jT_xaload_n (v := (4, 0)) (pcN := 1315) jI_379_1314 rfl rfl rfl ?_
  refine jT_xaload_n (v := (6, 0)) (pcN := 1316) jI_379_1315 rfl rfl rfl ?_
  refine jT_xiload (v := (0, 0)) (pcN := 1318) jI_379_1316 rfl rfl rfl ?_
  refine jT_xiconst (k := 1) (pcN := 1319) jI_379_1318 rfl ?_
  refine jT_xiadd (x := 0) (y := 1) (z := 1) (pcN := 1320) jI_379_1319 rfl (by decide) rfl ?_
  refine jT_adv 1 (pcN := 1321) (LN := [(5, (0, 0)), (4, (4, 3)), (3, (4, 2)), (2, (4, 1)), (1, (4, 0)), (0, (6, 0))]) (stN := [(0, x1), (4, 0)]) (hsN := jpA_2350) (c1 := 0) (s1 := 0) (c2 := 4) (s2 := 21) (by exact rfl) ?_ (by omega) (by omega)
  refine jT_eq (LN := [(5, (0, 0)), (4, (4, 3)), (3, (4, 2)), (2, (4, 1)), (1, (4, 0)), (0, (6, 0))]) (stN := [(0, 3), (4, 0)]) (hsN := [jzA_265, jzA_266, (101, [], [0]), jgh, jgh, jgh, jgh, jgh, jgh, jgh, jgh, jgh, jgh, jzA_79, jzA_322, (100, [], jS0), (100, [], []), jzA_323, jzA_197, jgh, jgh, (101, [], [0, 0, 0, 0, 0, 0]), jgh, jgh, jgh, jgh, jgh, jgh, jgh, jgh, jzA_324, (117, [], [44, 45, 46, 47]), jgh, jgh, jgh, (100, [], (List.replicate 1613 0)), jgh, jgh, jgh, jgh, jgh, jgh, jgh, (4, [(4, 48), (1, 1)], []), jgh, jgh, jgh, (7, [(4, 49), (4, (-1)), (4, (-1))], []), (101, [], [0, 0, 0, 0, 0, 0]), (114, [], [43])]) (rfl) (by simp only [List.cons.injEq, Prod.mk.injEq, and_true, true_and] <;> ((try unfold jw); (try unfold jwl); omega)) (rfl) ?_
  refine jT_xaload_n (v := (6, 0)) (pcN := 1322) jI_379_1321 rfl rfl rfl ?_
  refine jT_xiload (v := (0, 0)) (pcN := 1324) jI_379_1322 rfl rfl rfl ?_
  refine jT_xiconst (k := 2) (pcN := 1325) jI_379_1324 rfl ?_
  refine jT_xiadd (x := 0) (y := 2) (z := 2) (pcN := 1326) jI_379_1325 rfl (by decide) rfl ?_
  refine jT_adv 1 (pcN := 1327) (LN := [(5, (0, 0)), (4, (4, 3)), (3, (4, 2)), (2, (4, 1)), (1, (4, 0)), (0, (6, 0))]) (stN := [(0, x2), (0, 3), (4, 0)]) (hsN := jpA_2350) (c1 := 0) (s1 := 0) (c2 := 4) (s2 := 21) (by exact rfl) ?_ (by omega) (by omega)
  refine jT_eq (LN := [(5, (0, 0)), (4, (4, 3)), (3, (4, 2)), (2, (4, 1)), (1, (4, 0)), (0, (6, 0))]) (stN := [(0, 0), (0, 3), (4, 0)]) (hsN := [jzA_265, jzA_266, (101, [], [0]), jgh, jgh, jgh, jgh, jgh, jgh, jgh, jgh, jgh, jgh, jzA_79, jzA_322, (100, [], jS0), (100, [], []), jzA_323, jzA_197, jgh, jgh, (101, [], [0, 0, 0, 0, 0, 0]), jgh, jgh, jgh, jgh, jgh, jgh, jgh, jgh, jzA_324, (117, [], [44, 45, 46, 47]), jgh, jgh, jgh, (100, [], (List.replicate 1613 0)), jgh, jgh, jgh, jgh, jgh, jgh, jgh, (4, [(4, 48), (1, 1)], []), jgh, jgh, jgh, (7, [(4, 49), (4, (-1)), (4, (-1))], []), (101, [], [0, 0, 0, 0, 0, 0]), (114, [], [43])]) (rfl) (by simp only [List.cons.injEq, Prod.mk.injEq, and_true, true_and] <;> ((try unfold jw); (try unfold jwl); omega)) (rfl) ?_
  refine jT_xaload_n (v := (6, 0)) (pcN := 1328) jI_379_1327 rfl rfl rfl ?_
  refine jT_xiload (v := (0, 0)) (pcN := 1330) jI_379_1328 rfl rfl rfl ?_
  refine jT_xiconst (k := 3) (pcN := 1331) jI_379_1330 rfl ?_
  refine jT_xiadd (x := 0) (y := 3) (z := 3) (pcN := 1332) jI_379_1331 rfl (by decide) rfl ?_
  refine jT_adv 1 (pcN := 1333) (LN := [(5, (0, 0)), (4, (4, 3)), (3, (4, 2)), (2, (4, 1)), (1, (4, 0)), (0, (6, 0))]) (stN := [(0, x3), (0, 0), (0, 3), (4, 0)]) (hsN := jpA_2350) (c1 := 0) (s1 := 0) (c2 := 4) (s2 := 21) (by exact rfl) ?_ (by omega) (by omega)
  refine jT_xaload_n (v := (4, 2)) (pcN := 1334) jI_379_1333 rfl rfl rfl ?_
  refine jT_fB [0, 2, 4, 5, 6, 7, 8, 9, 10, 11, 12, 13, 14, 30, 31, 32, 33, 34, 43, 44, 45, 46, 47, 48, 49] 50 (y := 339) (pcN := 1337) (dC := 4) (bc1 := 4) (bc2 := 21) (c1 := 0) (c2 := 0) (as := [(4, 0), (0, 3), (0, 0), (0, x3), (4, 2)]) (asC := [(4, 0), (0, 3), (0, 0), (0, x3), (4, 1)]) (LN := [(5, (0, 0)), (4, (4, 3)), (3, (4, 2)), (2, (4, 1)), (1, (4, 0)), (0, (6, 0))]) (stN := []) (hsC := jpA_2296) (hsD := jpA_2300) (v := (0, 0)) (st2 := [(0, 0)]) (hs2 := jpA_2351) (jA_339_601 (d := 0) (by omega)) (by rfl) (by rfl) (by decide +kernel) (by rfl) (by rfl) (by omega) (by omega) (by omega) (by omega) rfl (by decide +kernel) ?_
  refine jT_xistore (v := (0, 0)) (LN := [(6, (0, 0)), (5, (0, 0)), (4, (4, 3)), (3, (4, 2)), (2, (4, 1)), (1, (4, 0)), (0, (6, 0))]) (pcN := 1339) jI_379_1337 rfl rfl rfl rfl ?_
  refine jT_xaload_n (v := (4, 1)) (pcN := 1340) jI_379_1339 rfl rfl rfl ?_
  refine jT_xaload_n (v := (6, 0)) (pcN := 1341) jI_379_1340 rfl rfl rfl ?_
  refine jT_xiload (v := (0, 0)) (pcN := 1343) jI_379_1341 rfl rfl rfl ?_
  refine jT_xiconst (k := 1) (pcN := 1344) jI_379_1343 rfl ?_
  refine jT_xiadd (x := 0) (y := 1) (z := 1) (pcN := 1345) jI_379_1344 rfl (by decide) rfl ?_
  refine jT_adv 1 (pcN := 1346) (LN := [(6, (0, 0)), (5, (0, 0)), (4, (4, 3)), (3, (4, 2)), (2, (4, 1)), (1, (4, 0)), (0, (6, 0))]) (stN := [(0, x1), (4, 1)]) (hsN := jpA_2351) (c1 := 0) (s1 := 0) (c2 := 0) (s2 := 0) (by exact rfl) ?_ (by omega) (by omega)
  refine jT_eq (LN := [(6, (0, 0)), (5, (0, 0)), (4, (4, 3)), (3, (4, 2)), (2, (4, 1)), (1, (4, 0)), (0, (6, 0))]) (stN := [(0, 3), (4, 1)]) (hsN := [jzA_2337, jzA_266, (101, [], [0]), jgh, jgh, jgh, jgh, jgh, jgh, jgh, jgh, jgh, jgh, jzA_327, jzA_322, (100, [], jS0), (100, [], []), jzA_323, jzA_197, jgh, jgh, (101, [], [0, 0, 0, 0, 0, 0]), jgh, jgh, jgh, jgh, jgh, jgh, jgh, jgh, jzA_324, (117, [], [44, 45, 46, 47]), jgh, jgh, jgh, (100, [], (List.replicate 1613 0)), jgh, jgh, jgh, jgh, jgh, jgh, jgh, (4, [(4, 48), (1, 1)], []), jgh, jgh, jgh, (7, [(4, 49), (4, (-1)), (4, (-1))], []), (101, [], [0, 0, 0, 0, 0, 0]), (114, [], [43]), (101, [], [0, 0, 0, 0, 0, 0]), (4, [(4, 50), (1, 1)], []), jgh, jzA_2338]) (rfl) (by simp only [List.cons.injEq, Prod.mk.injEq, and_true, true_and] <;> ((try unfold jw); (try unfold jwl); omega)) (rfl) ?_
  refine jT_xaload_n (v := (6, 0)) (pcN := 1347) jI_379_1346 rfl rfl rfl ?_
  refine jT_xiload (v := (0, 0)) (pcN := 1349) jI_379_1347 rfl rfl rfl ?_
  refine jT_xiconst (k := 2) (pcN := 1350) jI_379_1349 rfl ?_
  refine jT_xiadd (x := 0) (y := 2) (z := 2) (pcN := 1351) jI_379_1350 rfl (by decide) rfl ?_
  refine jT_adv 1 (pcN := 1352) (LN := [(6, (0, 0)), (5, (0, 0)), (4, (4, 3)), (3, (4, 2)), (2, (4, 1)), (1, (4, 0)), (0, (6, 0))]) (stN := [(0, x2), (0, 3), (4, 1)]) (hsN := jpA_2351) (c1 := 0) (s1 := 0) (c2 := 0) (s2 := 0) (by exact rfl) ?_ (by omega) (by omega)
  refine jT_eq (LN := [(6, (0, 0)), (5, (0, 0)), (4, (4, 3)), (3, (4, 2)), (2, (4, 1)), (1, (4, 0)), (0, (6, 0))]) (stN := [(0, 0), (0, 3), (4, 1)]) (hsN := [jzA_2337, jzA_266, (101, [], [0]), jgh, jgh, jgh, jgh, jgh, jgh, jgh, jgh, jgh, jgh, jzA_327, jzA_322, (100, [], jS0), (100, [], []), jzA_323, jzA_197, jgh, jgh, (101, [], [0, 0, 0, 0, 0, 0]), jgh, jgh, jgh, jgh, jgh, jgh, jgh, jgh, jzA_324, (117, [], [44, 45, 46, 47]), jgh, jgh, jgh, (100, [], (List.replicate 1613 0)), jgh, jgh, jgh, jgh, jgh, jgh, jgh, (4, [(4, 48), (1, 1)], []), jgh, jgh, jgh, (7, [(4, 49), (4, (-1)), (4, (-1))], []), (101, [], [0, 0, 0, 0, 0, 0]), (114, [], [43]), (101, [], [0, 0, 0, 0, 0, 0]), (4, [(4, 50), (1, 1)], []), jgh, jzA_2338]) (rfl) (by simp only [List.cons.injEq, Prod.mk.injEq, and_true, true_and] <;> ((try unfold jw); (try unfold jwl); omega)) (rfl) ?_
  refine jT_xaload_n (v := (6, 0)) (pcN := 1353) jI_379_1352 rfl rfl rfl ?_
  refine jT_xiload (v := (0, 0)) (pcN := 1355) jI_379_1353 rfl rfl rfl ?_
  refine jT_xiconst (k := 3) (pcN := 1356) jI_379_1355 rfl ?_
  refine jT_xiadd (x := 0) (y := 3) (z := 3) (pcN := 1357) jI_379_1356 rfl (by decide) rfl ?_
  refine jT_adv 1 (pcN := 1358) (LN := [(6, (0, 0)), (5, (0, 0)), (4, (4, 3)), (3, (4, 2)), (2, (4, 1)), (1, (4, 0)), (0, (6, 0))]) (stN := [(0, x3), (0, 0), (0, 3), (4, 1)]) (hsN := jpA_2351) (c1 := 0) (s1 := 0) (c2 := 0) (s2 := 0) (by exact rfl) ?_ (by omega) (by omega)
  refine jT_fB [1, 15, 16, 17, 18, 19, 20, 21, 22, 23, 24, 25, 26, 27, 28, 29, 35, 36, 37, 38, 39, 40, 41, 42] 54 (y := 252) (pcN := 1361) (dC := 2) (bc1 := 0) (bc2 := 0) (c1 := 0) (c2 := 0) (as := [(4, 1), (0, 3), (0, 0), (0, x3)]) (asC := [(4, 0), (0, 3), (0, 0), (0, x3)]) (LN := [(6, (0, 0)), (5, (0, 0)), (4, (4, 3)), (3, (4, 2)), (2, (4, 1)), (1, (4, 0)), (0, (6, 0))]) (stN := []) (hsC := jpA_248) (hsD := [jzA_200, (100, [], ((((((((((((((jS0).set ((7 * x3).toNat) 0)).set ((7 * x3 + 1).toNat) 0)).set ((7 * x3 + 2).toNat) 0)).set ((7 * x3 + 3).toNat) 0)).set ((7 * x3 + 4).toNat) 0)).set ((7 * x3 + 5).toNat) 0)).set ((7 * x3 + 6).toNat) 1)), (100, [], []), jzA_196, jzA_201, jgh, jgh, (101, [], [0, 0, 0, 0, 0, 0]), jgh, jgh, jgh, jgh, jgh, jgh, jgh, jgh, (100, [], jS0), jgh, jgh, jgh, jgh, jgh, jgh, jgh]) (v := (0, 0)) (st2 := [(0, 0)]) (hs2 := [jzA_2337, jzA_330, (101, [], [0]), jgh, jgh, jgh, jgh, jgh, jgh, jgh, jgh, jgh, jgh, jzA_327, jzA_322, (100, [], ((((((((((((((jS0).set ((7 * x3).toNat) 0)).set ((7 * x3 + 1).toNat) 0)).set ((7 * x3 + 2).toNat) 0)).set ((7 * x3 + 3).toNat) 0)).set ((7 * x3 + 4).toNat) 0)).set ((7 * x3 + 5).toNat) 0)).set ((7 * x3 + 6).toNat) 1)), (100, [], []), jzA_323, jzA_331, jgh, jgh, (101, [], [0, 0, 0, 0, 0, 0]), jgh, jgh, jgh, jgh, jgh, jgh, jgh, jgh, jzA_324, (117, [], [44, 45, 46, 47]), jgh, jgh, jgh, (100, [], jS0), jgh, jgh, jgh, jgh, jgh, jgh, jgh, (4, [(4, 48), (1, 1)], []), jgh, jgh, jgh, (7, [(4, 49), (4, (-1)), (4, (-1))], []), (101, [], [0, 0, 0, 0, 0, 0]), (114, [], [43]), (101, [], [0, 0, 0, 0, 0, 0]), (4, [(4, 50), (1, 1)], []), jgh, jzA_2338]) (jA_252_602 (d := 0) (by omega)) (by rfl) (by rfl) (by decide +kernel) (by rfl) (by rfl) (by omega) (by omega) (by omega) (by omega) rfl rfl ?_
  refine jT_xistore (v := (0, 0)) (LN := [(7, (0, 0)), (6, (0, 0)), (5, (0, 0)), (4, (4, 3)), (3, (4, 2)), (2, (4, 1)), (1, (4, 0)), (0, (6, 0))]) (pcN := 1363) jI_379_1361 rfl rfl rfl rfl ?_
  refine jT_xaload_n (v := (4, 1)) (pcN := 1364) jI_379_1363 rfl rfl rfl ?_
  refine jT_callA [1, 15, 16, 17, 18, 19, 20, 21, 22, 23, 24, 25, 26, 27, 28, 29] (y := 186) (pcN := 1367) (dC := 0) (bc1 := 0) (bc2 := 0) (c1 := 0) (c2 := 0) (as := [(4, 1)]) (asC := [(4, 0)]) (LN := [(7, (0, 0)), (6, (0, 0)), (5, (0, 0)), (4, (4, 3)), (3, (4, 2)), (2, (4, 1)), (1, (4, 0)), (0, (6, 0))]) (stN := []) (hsC := jpA_258) (ex := []) (v := (0, 0)) (st2 := [(0, 0)]) (hs2 := [jzA_2337, jzA_330, (101, [], [0]), jgh, jgh, jgh, jgh, jgh, jgh, jgh, jgh, jgh, jgh, jzA_327, jzA_322, (100, [], ((((((((((((((jS0).set ((7 * x3).toNat) 0)).set ((7 * x3 + 1).toNat) 0)).set ((7 * x3 + 2).toNat) 0)).set ((7 * x3 + 3).toNat) 0)).set ((7 * x3 + 4).toNat) 0)).set ((7 * x3 + 5).toNat) 0)).set ((7 * x3 + 6).toNat) 1)), (100, [], []), jzA_323, jzA_331, jgh, jgh, (101, [], [0, 0, 0, 0, 0, 0]), jgh, jgh, jgh, jgh, jgh, jgh, jgh, jgh, jzA_324, (117, [], [44, 45, 46, 47]), jgh, jgh, jgh, (100, [], jS0), jgh, jgh, jgh, jgh, jgh, jgh, jgh, (4, [(4, 48), (1, 1)], []), jgh, jgh, jgh, (7, [(4, 49), (4, (-1)), (4, (-1))], []), (101, [], [0, 0, 0, 0, 0, 0]), (114, [], [43]), (101, [], [0, 0, 0, 0, 0, 0]), (4, [(4, 50), (1, 1)], []), jgh, jzA_2338]) (jA_186_54 (d := 0)) (by rfl) (by rfl) (by rfl) (by rfl) ⟨rfl, rfl, rfl, rfl, rfl, rfl, rfl, rfl, rfl, rfl, rfl, rfl, rfl, rfl, rfl, rfl, trivial⟩ (by rfl) (by rfl) (by omega) (by show 50 ≤ 54; omega) (by omega) (by omega) rfl rfl ?_
  refine jT_xiload (v := (0, 0)) (pcN := 1369) jI_379_1367 rfl rfl rfl ?_
  refine jT_xicT (pcN := 1374) jI_379_1369 rfl (by decide +kernel) rfl ?_
  refine jT_xiload (v := (0, 0)) (pcN := 1376) jI_379_1374 rfl rfl rfl ?_
  refine jT_xifF (t := 1391) (pcN := 1379) jI_379_1376 rfl (by decide +kernel) rfl rfl ?_
  refine jT_xaload_n (v := (4, 2)) (pcN := 1380) jI_379_1379 rfl rfl rfl ?_
  refine jT_xiconst (k := 0) (pcN := 1381) jI_379_1380 rfl ?_
  refine jT_lald (x := 0) (a := 2) (j := 0) (fs := []) (X := [0]) jI_379_1381 rfl rfl rfl rfl ?_
  refine jT_eq (LN := [(7, (0, 0)), (6, (0, 0)), (5, (0, 0)), (4, (4, 3)), (3, (4, 2)), (2, (4, 1)), (1, (4, 0)), (0, (6, 0))]) (stN := [(1, 0)]) (hsN := [jzA_2337, jzA_330, (101, [], [0]), jgh, jgh, jgh, jgh, jgh, jgh, jgh, jgh, jgh, jgh, jzA_327, jzA_322, (100, [], ((((((((((((((jS0).set ((7 * x3).toNat) 0)).set ((7 * x3 + 1).toNat) 0)).set ((7 * x3 + 2).toNat) 0)).set ((7 * x3 + 3).toNat) 0)).set ((7 * x3 + 4).toNat) 0)).set ((7 * x3 + 5).toNat) 0)).set ((7 * x3 + 6).toNat) 1)), (100, [], []), jzA_323, jzA_331, jgh, jgh, (101, [], [0, 0, 0, 0, 0, 0]), jgh, jgh, jgh, jgh, jgh, jgh, jgh, jgh, jzA_324, (117, [], [44, 45, 46, 47]), jgh, jgh, jgh, (100, [], jS0), jgh, jgh, jgh, jgh, jgh, jgh, jgh, (4, [(4, 48), (1, 1)], []), jgh, jgh, jgh, (7, [(4, 49), (4, (-1)), (4, (-1))], []), (101, [], [0, 0, 0, 0, 0, 0]), (114, [], [43]), (101, [], [0, 0, 0, 0, 0, 0]), (4, [(4, 50), (1, 1)], []), jgh, jzA_2338]) rfl rfl rfl ?_
  refine jT_xiload (v := (0, 0)) (pcN := 1384) jI_379_1382 rfl rfl rfl ?_
  refine jT_xi2l (x := 0) (z := 0) (pcN := 1385) jI_379_1384 rfl (by decide +kernel) rfl ?_
  refine jT_lcmp (a := 0) (b := 0) (z := 0) (by rfl) (by rfl) (by decide +kernel) (by decide +kernel) (by decide) ?_
  refine jT_xifT (pcN := 1391) jI_379_1386 rfl (by decide +kernel) rfl ?_
  refine jT_xgoto (pcN := 3740) jI_379_1391 rfl ?_
  refine jT_xiinc (x := 0) (z := 5) (LN := [(5, (0, 5)), (7, (0, 0)), (6, (0, 0)), (4, (4, 3)), (3, (4, 2)), (2, (4, 1)), (1, (4, 0)), (0, (6, 0))]) (pcN := 3743) jI_379_3740 rfl rfl (by decide) rfl rfl ?_
  refine jT_xgoto (pcN := 28) jI_379_3743 rfl ?_
  refine jT_xiload (v := (0, 5)) (pcN := 30) jI_379_28 rfl rfl rfl ?_
  refine jT_xaload_n (v := (6, 0)) (pcN := 31) jI_379_30 rfl rfl rfl ?_
  refine jT_adv 1 (pcN := 32) (LN := [(5, (0, 5)), (7, (0, 0)), (6, (0, 0)), (4, (4, 3)), (3, (4, 2)), (2, (4, 1)), (1, (4, 0)), (0, (6, 0))]) (stN := [(0, 5), (0, 5)]) (hsN := [jzA_2337, jzA_330, (101, [], [0]), jgh, jgh, jgh, jgh, jgh, jgh, jgh, jgh, jgh, jgh, jzA_327, jzA_322, (100, [], ((((((((((((((jS0).set ((7 * x3).toNat) 0)).set ((7 * x3 + 1).toNat) 0)).set ((7 * x3 + 2).toNat) 0)).set ((7 * x3 + 3).toNat) 0)).set ((7 * x3 + 4).toNat) 0)).set ((7 * x3 + 5).toNat) 0)).set ((7 * x3 + 6).toNat) 1)), (100, [], []), jzA_323, jzA_331, jgh, jgh, (101, [], [0, 0, 0, 0, 0, 0]), jgh, jgh, jgh, jgh, jgh, jgh, jgh, jgh, jzA_324, (117, [], [44, 45, 46, 47]), jgh, jgh, jgh, (100, [], jS0), jgh, jgh, jgh, jgh, jgh, jgh, jgh, (4, [(4, 48), (1, 1)], []), jgh, jgh, jgh, (7, [(4, 49), (4, (-1)), (4, (-1))], []), (101, [], [0, 0, 0, 0, 0, 0]), (114, [], [43]), (101, [], [0, 0, 0, 0, 0, 0]), (4, [(4, 50), (1, 1)], []), jgh, jzA_2338]) (c1 := 0) (s1 := 0) (c2 := 0) (s2 := 0) (by exact rfl) ?_ (by omega) (by omega)
  refine jT_xiconst (k := 5) (pcN := 33) jI_379_32 rfl ?_
  refine jT_xisub (x := 5) (y := 5) (z := 0) (pcN := 34) jI_379_33 rfl (by decide) rfl ?_
  refine jT_xicT (pcN := 3746) jI_379_34 rfl (by decide +kernel) rfl ?_
  refine jT_xiconst (k := 1) (pcN := 3747) jI_379_3746 rfl ?_
  exact jT_ret rfl (by decide) (by show 50 ≤ 54; decide) (by omega) (by omega) ⟨rfl, rfl⟩
set_option maxRecDepth 100000 in
theorem jL_13_14 {d : Nat} {x0 x1 x2 x3 x4 : Int} (h_x0 : (-2147483648) ≤ x0 ∧ x0 ≤ 2147483647) (h_x1 : 3 ≤ x1 ∧ x1 ≤ 3) (h_x2 : 1 ≤ x2 ∧ x2 ≤ 200) (h_x3 : 0 ≤ x3 ∧ x3 ≤ 7) (h_x4 : (-2147483648) ≤ x4 ∧ x4 ≤ 2147483647) : jT [x0, x1, x2, x3, x4] (d + 5) 379 50 1314 [(5, (0, 0)), (4, (4, 3)), (3, (4, 2)), (2, (4, 1)), (1, (4, 0)), (0, (6, 0))] [] jpA_2350 4 21 (fun k v hsN => k = 0 ∧ v = (0, 1)) := by
  refine jT_xaload_n (v := (4, 0)) (pcN := 1315) jI_379_1314 rfl rfl rfl ?_
  refine jT_xaload_n (v := (6, 0)) (pcN := 1316) jI_379_1315 rfl rfl rfl ?_
  refine jT_xiload (v := (0, 0)) (pcN := 1318) jI_379_1316 rfl rfl rfl ?_
  refine jT_xiconst (k := 1) (pcN := 1319) jI_379_1318 rfl ?_
  refine jT_xiadd (x := 0) (y := 1) (z := 1) (pcN := 1320) jI_379_1319 rfl (by decide) rfl ?_
  refine jT_adv 1 (pcN := 1321) (LN := [(5, (0, 0)), (4, (4, 3)), (3, (4, 2)), (2, (4, 1)), (1, (4, 0)), (0, (6, 0))]) (stN := [(0, x1), (4, 0)]) (hsN := jpA_2350) (c1 := 0) (s1 := 0) (c2 := 4) (s2 := 21) (by exact rfl) ?_ (by omega) (by omega)
  refine jT_eq (LN := [(5, (0, 0)), (4, (4, 3)), (3, (4, 2)), (2, (4, 1)), (1, (4, 0)), (0, (6, 0))]) (stN := [(0, 3), (4, 0)]) (hsN := [jzA_265, jzA_266, (101, [], [0]), jgh, jgh, jgh, jgh, jgh, jgh, jgh, jgh, jgh, jgh, jzA_79, jzA_322, (100, [], jS0), (100, [], []), jzA_323, jzA_197, jgh, jgh, (101, [], [0, 0, 0, 0, 0, 0]), jgh, jgh, jgh, jgh, jgh, jgh, jgh, jgh, jzA_324, (117, [], [44, 45, 46, 47]), jgh, jgh, jgh, (100, [], (List.replicate 1613 0)), jgh, jgh, jgh, jgh, jgh, jgh, jgh, (4, [(4, 48), (1, 1)], []), jgh, jgh, jgh, (7, [(4, 49), (4, (-1)), (4, (-1))], []), (101, [], [0, 0, 0, 0, 0, 0]), (114, [], [43])]) (rfl) (by simp only [List.cons.injEq, Prod.mk.injEq, and_true, true_and] <;> ((try unfold jw); (try unfold jwl); omega)) (rfl) ?_
  refine jT_xaload_n (v := (6, 0)) (pcN := 1322) jI_379_1321 rfl rfl rfl ?_
  refine jT_xiload (v := (0, 0)) (pcN := 1324) jI_379_1322 rfl rfl rfl ?_
  refine jT_xiconst (k := 2) (pcN := 1325) jI_379_1324 rfl ?_
  refine jT_xiadd (x := 0) (y := 2) (z := 2) (pcN := 1326) jI_379_1325 rfl (by decide) rfl ?_
  refine jT_adv 1 (pcN := 1327) (LN := [(5, (0, 0)), (4, (4, 3)), (3, (4, 2)), (2, (4, 1)), (1, (4, 0)), (0, (6, 0))]) (stN := [(0, x2), (0, 3), (4, 0)]) (hsN := jpA_2350) (c1 := 0) (s1 := 0) (c2 := 4) (s2 := 21) (by exact rfl) ?_ (by omega) (by omega)
  refine jT_xaload_n (v := (6, 0)) (pcN := 1328) jI_379_1327 rfl rfl rfl ?_
  refine jT_xiload (v := (0, 0)) (pcN := 1330) jI_379_1328 rfl rfl rfl ?_
  refine jT_xiconst (k := 3) (pcN := 1331) jI_379_1330 rfl ?_
  refine jT_xiadd (x := 0) (y := 3) (z := 3) (pcN := 1332) jI_379_1331 rfl (by decide) rfl ?_
  refine jT_adv 1 (pcN := 1333) (LN := [(5, (0, 0)), (4, (4, 3)), (3, (4, 2)), (2, (4, 1)), (1, (4, 0)), (0, (6, 0))]) (stN := [(0, x3), (0, x2), (0, 3), (4, 0)]) (hsN := jpA_2350) (c1 := 0) (s1 := 0) (c2 := 4) (s2 := 21) (by exact rfl) ?_ (by omega) (by omega)
  refine jT_xaload_n (v := (4, 2)) (pcN := 1334) jI_379_1333 rfl rfl rfl ?_
  refine jT_fB [0, 2, 4, 5, 6, 7, 8, 9, 10, 11, 12, 13, 14, 30, 31, 32, 33, 34, 43, 44, 45, 46, 47, 48, 49] 50 (y := 339) (pcN := 1337) (dC := 4) (bc1 := 4) (bc2 := 21) (c1 := 0) (c2 := 0) (as := [(4, 0), (0, 3), (0, x2), (0, x3), (4, 2)]) (asC := [(4, 0), (0, 3), (0, x2), (0, x3), (4, 1)]) (LN := [(5, (0, 0)), (4, (4, 3)), (3, (4, 2)), (2, (4, 1)), (1, (4, 0)), (0, (6, 0))]) (stN := []) (hsC := jpA_2296) (hsD := [jzA_2220, (101, [], [0]), jgh, jgh, jgh, jgh, jgh, jgh, jgh, jgh, jgh, jzA_76, jzA_77, jzA_109, (117, [], [19, 20, 21, 22]), jgh, jgh, jgh, (4, [(4, 23), (1, 1)], []), jgh, jgh, jgh, (7, [(4, 24), (4, (-1)), (4, (-1))], []), (101, [], [0, 0, 0, 0, 0, 0]), (114, [], [18]), (101, [], [x2, 0, 0, 0, 0, 0]), (4, [(4, 25), (1, 1)], []), jgh, jzA_2221]) (v := (0, 0)) (st2 := [(0, 0)]) (hs2 := [jzA_2337, jzA_266, (101, [], [0]), jgh, jgh, jgh, jgh, jgh, jgh, jgh, jgh, jgh, jgh, jzA_327, jzA_322, (100, [], jS0), (100, [], []), jzA_323, jzA_197, jgh, jgh, (101, [], [0, 0, 0, 0, 0, 0]), jgh, jgh, jgh, jgh, jgh, jgh, jgh, jgh, jzA_324, (117, [], [44, 45, 46, 47]), jgh, jgh, jgh, (100, [], (List.replicate 1613 0)), jgh, jgh, jgh, jgh, jgh, jgh, jgh, (4, [(4, 48), (1, 1)], []), jgh, jgh, jgh, (7, [(4, 49), (4, (-1)), (4, (-1))], []), (101, [], [0, 0, 0, 0, 0, 0]), (114, [], [43]), (101, [], [x2, 0, 0, 0, 0, 0]), (4, [(4, 50), (1, 1)], []), jgh, jzA_2338]) (jA_339_604 (d := 0) (by omega) (by omega)) (by rfl) (by rfl) (by decide +kernel) (by rfl) (by rfl) (by omega) (by omega) (by omega) (by omega) rfl rfl ?_
  refine jT_xistore (v := (0, 0)) (LN := [(6, (0, 0)), (5, (0, 0)), (4, (4, 3)), (3, (4, 2)), (2, (4, 1)), (1, (4, 0)), (0, (6, 0))]) (pcN := 1339) jI_379_1337 rfl rfl rfl rfl ?_
  refine jT_xaload_n (v := (4, 1)) (pcN := 1340) jI_379_1339 rfl rfl rfl ?_
  refine jT_xaload_n (v := (6, 0)) (pcN := 1341) jI_379_1340 rfl rfl rfl ?_
  refine jT_xiload (v := (0, 0)) (pcN := 1343) jI_379_1341 rfl rfl rfl ?_
  refine jT_xiconst (k := 1) (pcN := 1344) jI_379_1343 rfl ?_
  refine jT_xiadd (x := 0) (y := 1) (z := 1) (pcN := 1345) jI_379_1344 rfl (by decide) rfl ?_
  refine jT_adv 1 (pcN := 1346) (LN := [(6, (0, 0)), (5, (0, 0)), (4, (4, 3)), (3, (4, 2)), (2, (4, 1)), (1, (4, 0)), (0, (6, 0))]) (stN := [(0, x1), (4, 1)]) (hsN := [jzA_2337, jzA_266, (101, [], [0]), jgh, jgh, jgh, jgh, jgh, jgh, jgh, jgh, jgh, jgh, jzA_327, jzA_322, (100, [], jS0), (100, [], []), jzA_323, jzA_197, jgh, jgh, (101, [], [0, 0, 0, 0, 0, 0]), jgh, jgh, jgh, jgh, jgh, jgh, jgh, jgh, jzA_324, (117, [], [44, 45, 46, 47]), jgh, jgh, jgh, (100, [], (List.replicate 1613 0)), jgh, jgh, jgh, jgh, jgh, jgh, jgh, (4, [(4, 48), (1, 1)], []), jgh, jgh, jgh, (7, [(4, 49), (4, (-1)), (4, (-1))], []), (101, [], [0, 0, 0, 0, 0, 0]), (114, [], [43]), (101, [], [x2, 0, 0, 0, 0, 0]), (4, [(4, 50), (1, 1)], []), jgh, jzA_2338]) (c1 := 0) (s1 := 0) (c2 := 0) (s2 := 0) (by exact rfl) ?_ (by omega) (by omega)
  refine jT_eq (LN := [(6, (0, 0)), (5, (0, 0)), (4, (4, 3)), (3, (4, 2)), (2, (4, 1)), (1, (4, 0)), (0, (6, 0))]) (stN := [(0, 3), (4, 1)]) (hsN := [jzA_2337, jzA_266, (101, [], [0]), jgh, jgh, jgh, jgh, jgh, jgh, jgh, jgh, jgh, jgh, jzA_327, jzA_322, (100, [], jS0), (100, [], []), jzA_323, jzA_197, jgh, jgh, (101, [], [0, 0, 0, 0, 0, 0]), jgh, jgh, jgh, jgh, jgh, jgh, jgh, jgh, jzA_324, (117, [], [44, 45, 46, 47]), jgh, jgh, jgh, (100, [], (List.replicate 1613 0)), jgh, jgh, jgh, jgh, jgh, jgh, jgh, (4, [(4, 48), (1, 1)], []), jgh, jgh, jgh, (7, [(4, 49), (4, (-1)), (4, (-1))], []), (101, [], [0, 0, 0, 0, 0, 0]), (114, [], [43]), (101, [], [x2, 0, 0, 0, 0, 0]), (4, [(4, 50), (1, 1)], []), jgh, jzA_2338]) (rfl) (by simp only [List.cons.injEq, Prod.mk.injEq, and_true, true_and] <;> ((try unfold jw); (try unfold jwl); omega)) (rfl) ?_
  refine jT_xaload_n (v := (6, 0)) (pcN := 1347) jI_379_1346 rfl rfl rfl ?_
  refine jT_xiload (v := (0, 0)) (pcN := 1349) jI_379_1347 rfl rfl rfl ?_
  refine jT_xiconst (k := 2) (pcN := 1350) jI_379_1349 rfl ?_
  refine jT_xiadd (x := 0) (y := 2) (z := 2) (pcN := 1351) jI_379_1350 rfl (by decide) rfl ?_
  refine jT_adv 1 (pcN := 1352) (LN := [(6, (0, 0)), (5, (0, 0)), (4, (4, 3)), (3, (4, 2)), (2, (4, 1)), (1, (4, 0)), (0, (6, 0))]) (stN := [(0, x2), (0, 3), (4, 1)]) (hsN := [jzA_2337, jzA_266, (101, [], [0]), jgh, jgh, jgh, jgh, jgh, jgh, jgh, jgh, jgh, jgh, jzA_327, jzA_322, (100, [], jS0), (100, [], []), jzA_323, jzA_197, jgh, jgh, (101, [], [0, 0, 0, 0, 0, 0]), jgh, jgh, jgh, jgh, jgh, jgh, jgh, jgh, jzA_324, (117, [], [44, 45, 46, 47]), jgh, jgh, jgh, (100, [], (List.replicate 1613 0)), jgh, jgh, jgh, jgh, jgh, jgh, jgh, (4, [(4, 48), (1, 1)], []), jgh, jgh, jgh, (7, [(4, 49), (4, (-1)), (4, (-1))], []), (101, [], [0, 0, 0, 0, 0, 0]), (114, [], [43]), (101, [], [x2, 0, 0, 0, 0, 0]), (4, [(4, 50), (1, 1)], []), jgh, jzA_2338]) (c1 := 0) (s1 := 0) (c2 := 0) (s2 := 0) (by exact rfl) ?_ (by omega) (by omega)
  refine jT_xaload_n (v := (6, 0)) (pcN := 1353) jI_379_1352 rfl rfl rfl ?_
  refine jT_xiload (v := (0, 0)) (pcN := 1355) jI_379_1353 rfl rfl rfl ?_
  refine jT_xiconst (k := 3) (pcN := 1356) jI_379_1355 rfl ?_
  refine jT_xiadd (x := 0) (y := 3) (z := 3) (pcN := 1357) jI_379_1356 rfl (by decide) rfl ?_
  refine jT_adv 1 (pcN := 1358) (LN := [(6, (0, 0)), (5, (0, 0)), (4, (4, 3)), (3, (4, 2)), (2, (4, 1)), (1, (4, 0)), (0, (6, 0))]) (stN := [(0, x3), (0, x2), (0, 3), (4, 1)]) (hsN := [jzA_2337, jzA_266, (101, [], [0]), jgh, jgh, jgh, jgh, jgh, jgh, jgh, jgh, jgh, jgh, jzA_327, jzA_322, (100, [], jS0), (100, [], []), jzA_323, jzA_197, jgh, jgh, (101, [], [0, 0, 0, 0, 0, 0]), jgh, jgh, jgh, jgh, jgh, jgh, jgh, jgh, jzA_324, (117, [], [44, 45, 46, 47]), jgh, jgh, jgh, (100, [], (List.replicate 1613 0)), jgh, jgh, jgh, jgh, jgh, jgh, jgh, (4, [(4, 48), (1, 1)], []), jgh, jgh, jgh, (7, [(4, 49), (4, (-1)), (4, (-1))], []), (101, [], [0, 0, 0, 0, 0, 0]), (114, [], [43]), (101, [], [x2, 0, 0, 0, 0, 0]), (4, [(4, 50), (1, 1)], []), jgh, jzA_2338]) (c1 := 0) (s1 := 0) (c2 := 0) (s2 := 0) (by exact rfl) ?_ (by omega) (by omega)
  refine jT_callB [1, 15, 16, 17, 18, 19, 20, 21, 22, 23, 24, 25, 26, 27, 28, 29, 35, 36, 37, 38, 39, 40, 41, 42] (y := 252) (pcN := 1361) (dC := 2) (bc1 := 0) (bc2 := 0) (c1 := 0) (c2 := 0) (as := [(4, 1), (0, 3), (0, x2), (0, x3)]) (asC := [(4, 0), (0, 3), (0, x2), (0, x3)]) (LN := [(6, (0, 0)), (5, (0, 0)), (4, (4, 3)), (3, (4, 2)), (2, (4, 1)), (1, (4, 0)), (0, (6, 0))]) (stN := []) (hsC := jpA_248) (hsD := [jzA_200, (100, [], ((((((((((((((jS0).set ((7 * x3).toNat) x2)).set ((7 * x3 + 1).toNat) 0)).set ((7 * x3 + 2).toNat) 0)).set ((7 * x3 + 3).toNat) 0)).set ((7 * x3 + 4).toNat) 0)).set ((7 * x3 + 5).toNat) 0)).set ((7 * x3 + 6).toNat) 1)), (100, [], []), jzA_196, jzA_201, jgh, jgh, (101, [], [x2, 0, 0, 0, 0, 0]), jgh, jgh, jgh, jgh, jgh, jgh, jgh, jgh, (100, [], jS0), jgh, jgh, jgh, jgh, jgh, jgh, jgh]) (v := (0, 0)) (st2 := [(0, 0)]) (hs2 := [jzA_2337, jzA_330, (101, [], [0]), jgh, jgh, jgh, jgh, jgh, jgh, jgh, jgh, jgh, jgh, jzA_327, jzA_322, (100, [], ((((((((((((((jS0).set ((7 * x3).toNat) x2)).set ((7 * x3 + 1).toNat) 0)).set ((7 * x3 + 2).toNat) 0)).set ((7 * x3 + 3).toNat) 0)).set ((7 * x3 + 4).toNat) 0)).set ((7 * x3 + 5).toNat) 0)).set ((7 * x3 + 6).toNat) 1)), (100, [], []), jzA_323, jzA_331, jgh, jgh, (101, [], [x2, 0, 0, 0, 0, 0]), jgh, jgh, jgh, jgh, jgh, jgh, jgh, jgh, jzA_324, (117, [], [44, 45, 46, 47]), jgh, jgh, jgh, (100, [], jS0), jgh, jgh, jgh, jgh, jgh, jgh, jgh, (4, [(4, 48), (1, 1)], []), jgh, jgh, jgh, (7, [(4, 49), (4, (-1)), (4, (-1))], []), (101, [], [0, 0, 0, 0, 0, 0]), (114, [], [43]), (101, [], [x2, 0, 0, 0, 0, 0]), (4, [(4, 50), (1, 1)], []), jgh, jzA_2338]) (jA_252_605 (d := 0) (by omega) (by omega)) (by rfl) (by rfl) (by rfl) (by rfl) ⟨rfl, rfl, rfl, rfl, rfl, rfl, rfl, rfl, rfl, rfl, rfl, rfl, rfl, rfl, rfl, rfl, rfl, rfl, rfl, rfl, rfl, rfl, rfl, rfl, trivial⟩ (by rfl) (by rfl) (by omega) (by show 50 ≤ 54; omega) (by omega) (by omega) rfl rfl ?_
  refine jT_xistore (v := (0, 0)) (LN := [(7, (0, 0)), (6, (0, 0)), (5, (0, 0)), (4, (4, 3)), (3, (4, 2)), (2, (4, 1)), (1, (4, 0)), (0, (6, 0))]) (pcN := 1363) jI_379_1361 rfl rfl rfl rfl ?_
  refine jT_xaload_n (v := (4, 1)) (pcN := 1364) jI_379_1363 rfl rfl rfl ?_
  refine jT_callA [1, 15, 16, 17, 18, 19, 20, 21, 22, 23, 24, 25, 26, 27, 28, 29] (y := 186) (pcN := 1367) (dC := 0) (bc1 := 0) (bc2 := 0) (c1 := 0) (c2 := 0) (as := [(4, 1)]) (asC := [(4, 0)]) (LN := [(7, (0, 0)), (6, (0, 0)), (5, (0, 0)), (4, (4, 3)), (3, (4, 2)), (2, (4, 1)), (1, (4, 0)), (0, (6, 0))]) (stN := []) (hsC := jpA_258) (ex := []) (v := (0, 0)) (st2 := [(0, 0)]) (hs2 := [jzA_2337, jzA_330, (101, [], [0]), jgh, jgh, jgh, jgh, jgh, jgh, jgh, jgh, jgh, jgh, jzA_327, jzA_322, (100, [], ((((((((((((((jS0).set ((7 * x3).toNat) x2)).set ((7 * x3 + 1).toNat) 0)).set ((7 * x3 + 2).toNat) 0)).set ((7 * x3 + 3).toNat) 0)).set ((7 * x3 + 4).toNat) 0)).set ((7 * x3 + 5).toNat) 0)).set ((7 * x3 + 6).toNat) 1)), (100, [], []), jzA_323, jzA_331, jgh, jgh, (101, [], [x2, 0, 0, 0, 0, 0]), jgh, jgh, jgh, jgh, jgh, jgh, jgh, jgh, jzA_324, (117, [], [44, 45, 46, 47]), jgh, jgh, jgh, (100, [], jS0), jgh, jgh, jgh, jgh, jgh, jgh, jgh, (4, [(4, 48), (1, 1)], []), jgh, jgh, jgh, (7, [(4, 49), (4, (-1)), (4, (-1))], []), (101, [], [0, 0, 0, 0, 0, 0]), (114, [], [43]), (101, [], [x2, 0, 0, 0, 0, 0]), (4, [(4, 50), (1, 1)], []), jgh, jzA_2338]) (jA_186_54 (d := 0)) (by rfl) (by rfl) (by rfl) (by rfl) ⟨rfl, rfl, rfl, rfl, rfl, rfl, rfl, rfl, rfl, rfl, rfl, rfl, rfl, rfl, rfl, rfl, trivial⟩ (by rfl) (by rfl) (by omega) (by show 50 ≤ 54; omega) (by omega) (by omega) rfl rfl ?_
  refine jT_xiload (v := (0, 0)) (pcN := 1369) jI_379_1367 rfl rfl rfl ?_
  refine jT_xicT (pcN := 1374) jI_379_1369 rfl (by decide +kernel) rfl ?_
  refine jT_xiload (v := (0, 0)) (pcN := 1376) jI_379_1374 rfl rfl rfl ?_
  refine jT_xifF (t := 1391) (pcN := 1379) jI_379_1376 rfl (by decide +kernel) rfl rfl ?_
  refine jT_xaload_n (v := (4, 2)) (pcN := 1380) jI_379_1379 rfl rfl rfl ?_
  refine jT_xiconst (k := 0) (pcN := 1381) jI_379_1380 rfl ?_
  refine jT_lald (x := 0) (a := 2) (j := 0) (fs := []) (X := [0]) jI_379_1381 rfl rfl rfl rfl ?_
  refine jT_eq (LN := [(7, (0, 0)), (6, (0, 0)), (5, (0, 0)), (4, (4, 3)), (3, (4, 2)), (2, (4, 1)), (1, (4, 0)), (0, (6, 0))]) (stN := [(1, 0)]) (hsN := [jzA_2337, jzA_330, (101, [], [0]), jgh, jgh, jgh, jgh, jgh, jgh, jgh, jgh, jgh, jgh, jzA_327, jzA_322, (100, [], ((((((((((((((jS0).set ((7 * x3).toNat) x2)).set ((7 * x3 + 1).toNat) 0)).set ((7 * x3 + 2).toNat) 0)).set ((7 * x3 + 3).toNat) 0)).set ((7 * x3 + 4).toNat) 0)).set ((7 * x3 + 5).toNat) 0)).set ((7 * x3 + 6).toNat) 1)), (100, [], []), jzA_323, jzA_331, jgh, jgh, (101, [], [x2, 0, 0, 0, 0, 0]), jgh, jgh, jgh, jgh, jgh, jgh, jgh, jgh, jzA_324, (117, [], [44, 45, 46, 47]), jgh, jgh, jgh, (100, [], jS0), jgh, jgh, jgh, jgh, jgh, jgh, jgh, (4, [(4, 48), (1, 1)], []), jgh, jgh, jgh, (7, [(4, 49), (4, (-1)), (4, (-1))], []), (101, [], [0, 0, 0, 0, 0, 0]), (114, [], [43]), (101, [], [x2, 0, 0, 0, 0, 0]), (4, [(4, 50), (1, 1)], []), jgh, jzA_2338]) rfl rfl rfl ?_
  refine jT_xiload (v := (0, 0)) (pcN := 1384) jI_379_1382 rfl rfl rfl ?_
  refine jT_xi2l (x := 0) (z := 0) (pcN := 1385) jI_379_1384 rfl (by decide +kernel) rfl ?_
  refine jT_lcmp (a := 0) (b := 0) (z := 0) (by rfl) (by rfl) (by decide +kernel) (by decide +kernel) (by decide) ?_
  refine jT_xifT (pcN := 1391) jI_379_1386 rfl (by decide +kernel) rfl ?_
  refine jT_xgoto (pcN := 3740) jI_379_1391 rfl ?_
  refine jT_xiinc (x := 0) (z := 5) (LN := [(5, (0, 5)), (7, (0, 0)), (6, (0, 0)), (4, (4, 3)), (3, (4, 2)), (2, (4, 1)), (1, (4, 0)), (0, (6, 0))]) (pcN := 3743) jI_379_3740 rfl rfl (by decide) rfl rfl ?_
  refine jT_xgoto (pcN := 28) jI_379_3743 rfl ?_
  refine jT_xiload (v := (0, 5)) (pcN := 30) jI_379_28 rfl rfl rfl ?_
  refine jT_xaload_n (v := (6, 0)) (pcN := 31) jI_379_30 rfl rfl rfl ?_
  refine jT_adv 1 (pcN := 32) (LN := [(5, (0, 5)), (7, (0, 0)), (6, (0, 0)), (4, (4, 3)), (3, (4, 2)), (2, (4, 1)), (1, (4, 0)), (0, (6, 0))]) (stN := [(0, 5), (0, 5)]) (hsN := [jzA_2337, jzA_330, (101, [], [0]), jgh, jgh, jgh, jgh, jgh, jgh, jgh, jgh, jgh, jgh, jzA_327, jzA_322, (100, [], ((((((((((((((jS0).set ((7 * x3).toNat) x2)).set ((7 * x3 + 1).toNat) 0)).set ((7 * x3 + 2).toNat) 0)).set ((7 * x3 + 3).toNat) 0)).set ((7 * x3 + 4).toNat) 0)).set ((7 * x3 + 5).toNat) 0)).set ((7 * x3 + 6).toNat) 1)), (100, [], []), jzA_323, jzA_331, jgh, jgh, (101, [], [x2, 0, 0, 0, 0, 0]), jgh, jgh, jgh, jgh, jgh, jgh, jgh, jgh, jzA_324, (117, [], [44, 45, 46, 47]), jgh, jgh, jgh, (100, [], jS0), jgh, jgh, jgh, jgh, jgh, jgh, jgh, (4, [(4, 48), (1, 1)], []), jgh, jgh, jgh, (7, [(4, 49), (4, (-1)), (4, (-1))], []), (101, [], [0, 0, 0, 0, 0, 0]), (114, [], [43]), (101, [], [x2, 0, 0, 0, 0, 0]), (4, [(4, 50), (1, 1)], []), jgh, jzA_2338]) (c1 := 0) (s1 := 0) (c2 := 0) (s2 := 0) (by exact rfl) ?_ (by omega) (by omega)
  refine jT_xiconst (k := 5) (pcN := 33) jI_379_32 rfl ?_
  refine jT_xisub (x := 5) (y := 5) (z := 0) (pcN := 34) jI_379_33 rfl (by decide) rfl ?_
  refine jT_xicT (pcN := 3746) jI_379_34 rfl (by decide +kernel) rfl ?_
  refine jT_xiconst (k := 1) (pcN := 3747) jI_379_3746 rfl ?_
  exact jT_ret rfl (by decide) (by show 50 ≤ 54; decide) (by omega) (by omega) ⟨rfl, rfl⟩
set_option maxRecDepth 100000 in
theorem jL_13_15 {d : Nat} {x0 x1 x2 x3 x4 : Int} (h_x0 : (-2147483648) ≤ x0 ∧ x0 ≤ 2147483647) (h_x1 : 0 ≤ x1 ∧ x1 ≤ 3) (h_x2 : 201 ≤ x2 ∧ x2 ≤ 2147483647) (h_x3 : 0 ≤ x3 ∧ x3 ≤ 7) (h_x4 : (-2147483648) ≤ x4 ∧ x4 ≤ 2147483647) : jT [x0, x1, x2, x3, x4] (d + 3) 379 30 1314 [(5, (0, 0)), (4, (4, 3)), (3, (4, 2)), (2, (4, 1)), (1, (4, 0)), (0, (6, 0))] [] jpA_267 1 6 (fun k v hsN => k = 0 ∧ v = (0, 1)) := by
  refine jT_xaload_n (v := (4, 0)) (pcN := 1315) jI_379_1314 rfl rfl rfl ?_
  refine jT_xaload_n (v := (6, 0)) (pcN := 1316) jI_379_1315 rfl rfl rfl ?_
  refine jT_xiload (v := (0, 0)) (pcN := 1318) jI_379_1316 rfl rfl rfl ?_
  refine jT_xiconst (k := 1) (pcN := 1319) jI_379_1318 rfl ?_
  refine jT_xiadd (x := 0) (y := 1) (z := 1) (pcN := 1320) jI_379_1319 rfl (by decide) rfl ?_
  refine jT_adv 1 (pcN := 1321) (LN := [(5, (0, 0)), (4, (4, 3)), (3, (4, 2)), (2, (4, 1)), (1, (4, 0)), (0, (6, 0))]) (stN := [(0, x1), (4, 0)]) (hsN := jpA_267) (c1 := 0) (s1 := 0) (c2 := 1) (s2 := 6) (by exact rfl) ?_ (by omega) (by omega)
  refine jT_xaload_n (v := (6, 0)) (pcN := 1322) jI_379_1321 rfl rfl rfl ?_
  refine jT_xiload (v := (0, 0)) (pcN := 1324) jI_379_1322 rfl rfl rfl ?_
  refine jT_xiconst (k := 2) (pcN := 1325) jI_379_1324 rfl ?_
  refine jT_xiadd (x := 0) (y := 2) (z := 2) (pcN := 1326) jI_379_1325 rfl (by decide) rfl ?_
  refine jT_adv 1 (pcN := 1327) (LN := [(5, (0, 0)), (4, (4, 3)), (3, (4, 2)), (2, (4, 1)), (1, (4, 0)), (0, (6, 0))]) (stN := [(0, x2), (0, x1), (4, 0)]) (hsN := jpA_267) (c1 := 0) (s1 := 0) (c2 := 1) (s2 := 6) (by exact rfl) ?_ (by omega) (by omega)
  refine jT_xaload_n (v := (6, 0)) (pcN := 1328) jI_379_1327 rfl rfl rfl ?_
  refine jT_xiload (v := (0, 0)) (pcN := 1330) jI_379_1328 rfl rfl rfl ?_
  refine jT_xiconst (k := 3) (pcN := 1331) jI_379_1330 rfl ?_
  refine jT_xiadd (x := 0) (y := 3) (z := 3) (pcN := 1332) jI_379_1331 rfl (by decide) rfl ?_
  refine jT_adv 1 (pcN := 1333) (LN := [(5, (0, 0)), (4, (4, 3)), (3, (4, 2)), (2, (4, 1)), (1, (4, 0)), (0, (6, 0))]) (stN := [(0, x3), (0, x2), (0, x1), (4, 0)]) (hsN := jpA_267) (c1 := 0) (s1 := 0) (c2 := 1) (s2 := 6) (by exact rfl) ?_ (by omega) (by omega)
  refine jT_xaload_n (v := (4, 2)) (pcN := 1334) jI_379_1333 rfl rfl rfl ?_
  refine jT_fR [0, 2, 4, 5, 6, 7, 8, 9, 10, 11, 12, 13, 14] 30 (y := 339) (pcN := 1337) (dC := 2) (bc1 := 1) (bc2 := 6) (c1 := 0) (c2 := 0) (as := [(4, 0), (0, x1), (0, x2), (0, x3), (4, 2)]) (asC := [(4, 0), (0, x1), (0, x2), (0, x3), (4, 1)]) (LN := [(5, (0, 0)), (4, (4, 3)), (3, (4, 2)), (2, (4, 1)), (1, (4, 0)), (0, (6, 0))]) (stN := []) (hsC := jpA_15) (v := (0, 2)) (st2 := [(0, 2)]) (jA_339_608 (d := 0) (by omega) (by omega) (by omega)) (by rfl) (by rfl) (by decide +kernel) (by rfl) (by rfl) (by omega) (by omega) (by omega) (by omega) rfl ?_
  refine jT_xistore (v := (0, 2)) (LN := [(6, (0, 2)), (5, (0, 0)), (4, (4, 3)), (3, (4, 2)), (2, (4, 1)), (1, (4, 0)), (0, (6, 0))]) (pcN := 1339) jI_379_1337 rfl rfl rfl rfl ?_
  refine jT_xaload_n (v := (4, 1)) (pcN := 1340) jI_379_1339 rfl rfl rfl ?_
  refine jT_xaload_n (v := (6, 0)) (pcN := 1341) jI_379_1340 rfl rfl rfl ?_
  refine jT_xiload (v := (0, 0)) (pcN := 1343) jI_379_1341 rfl rfl rfl ?_
  refine jT_xiconst (k := 1) (pcN := 1344) jI_379_1343 rfl ?_
  refine jT_xiadd (x := 0) (y := 1) (z := 1) (pcN := 1345) jI_379_1344 rfl (by decide) rfl ?_
  refine jT_adv 1 (pcN := 1346) (LN := [(6, (0, 2)), (5, (0, 0)), (4, (4, 3)), (3, (4, 2)), (2, (4, 1)), (1, (4, 0)), (0, (6, 0))]) (stN := [(0, x1), (4, 1)]) (hsN := jpA_267) (c1 := 0) (s1 := 0) (c2 := 0) (s2 := 0) (by exact rfl) ?_ (by omega) (by omega)
  refine jT_xaload_n (v := (6, 0)) (pcN := 1347) jI_379_1346 rfl rfl rfl ?_
  refine jT_xiload (v := (0, 0)) (pcN := 1349) jI_379_1347 rfl rfl rfl ?_
  refine jT_xiconst (k := 2) (pcN := 1350) jI_379_1349 rfl ?_
  refine jT_xiadd (x := 0) (y := 2) (z := 2) (pcN := 1351) jI_379_1350 rfl (by decide) rfl ?_
  refine jT_adv 1 (pcN := 1352) (LN := [(6, (0, 2)), (5, (0, 0)), (4, (4, 3)), (3, (4, 2)), (2, (4, 1)), (1, (4, 0)), (0, (6, 0))]) (stN := [(0, x2), (0, x1), (4, 1)]) (hsN := jpA_267) (c1 := 0) (s1 := 0) (c2 := 0) (s2 := 0) (by exact rfl) ?_ (by omega) (by omega)
  refine jT_xaload_n (v := (6, 0)) (pcN := 1353) jI_379_1352 rfl rfl rfl ?_
  refine jT_xiload (v := (0, 0)) (pcN := 1355) jI_379_1353 rfl rfl rfl ?_
  refine jT_xiconst (k := 3) (pcN := 1356) jI_379_1355 rfl ?_
  refine jT_xiadd (x := 0) (y := 3) (z := 3) (pcN := 1357) jI_379_1356 rfl (by decide) rfl ?_
  refine jT_adv 1 (pcN := 1358) (LN := [(6, (0, 2)), (5, (0, 0)), (4, (4, 3)), (3, (4, 2)), (2, (4, 1)), (1, (4, 0)), (0, (6, 0))]) (stN := [(0, x3), (0, x2), (0, x1), (4, 1)]) (hsN := jpA_267) (c1 := 0) (s1 := 0) (c2 := 0) (s2 := 0) (by exact rfl) ?_ (by omega) (by omega)
  refine jT_fB [1, 15, 16, 17, 18, 19, 20, 21, 22, 23, 24, 25, 26, 27, 28, 29] 30 (y := 252) (pcN := 1361) (dC := 2) (bc1 := 0) (bc2 := 0) (c1 := 0) (c2 := 0) (as := [(4, 1), (0, x1), (0, x2), (0, x3)]) (asC := [(4, 0), (0, x1), (0, x2), (0, x3)]) (LN := [(6, (0, 2)), (5, (0, 0)), (4, (4, 3)), (3, (4, 2)), (2, (4, 1)), (1, (4, 0)), (0, (6, 0))]) (stN := []) (hsC := jpA_22) (hsD := jpA_361) (v := (0, 0)) (st2 := [(0, 0)]) (hs2 := jpA_607) (jA_252_609 (d := 0) (by omega) (by omega) (by omega)) (by rfl) (by rfl) (by decide +kernel) (by rfl) (by rfl) (by omega) (by omega) (by omega) (by omega) rfl (by decide +kernel) ?_
  refine jT_xistore (v := (0, 0)) (LN := [(7, (0, 0)), (6, (0, 2)), (5, (0, 0)), (4, (4, 3)), (3, (4, 2)), (2, (4, 1)), (1, (4, 0)), (0, (6, 0))]) (pcN := 1363) jI_379_1361 rfl rfl rfl rfl ?_
  refine jT_xaload_n (v := (4, 1)) (pcN := 1364) jI_379_1363 rfl rfl rfl ?_
  refine jT_fR [1, 15, 16, 17, 18, 19, 20, 21, 22, 23, 24, 25, 26, 27, 28, 29] 30 (y := 186) (pcN := 1367) (dC := 0) (bc1 := 0) (bc2 := 0) (c1 := 0) (c2 := 0) (as := [(4, 1)]) (asC := [(4, 0)]) (LN := [(7, (0, 0)), (6, (0, 2)), (5, (0, 0)), (4, (4, 3)), (3, (4, 2)), (2, (4, 1)), (1, (4, 0)), (0, (6, 0))]) (stN := []) (hsC := jpA_361) (v := (0, 2)) (st2 := [(0, 2)]) (jA_186_101 (d := 0)) (by rfl) (by rfl) (by decide +kernel) (by rfl) (by rfl) (by omega) (by omega) (by omega) (by omega) rfl ?_
  refine jT_xiload (v := (0, 2)) (pcN := 1369) jI_379_1367 rfl rfl rfl ?_
  refine jT_xicT (pcN := 1374) jI_379_1369 rfl (by decide +kernel) rfl ?_
  refine jT_xiload (v := (0, 2)) (pcN := 1376) jI_379_1374 rfl rfl rfl ?_
  refine jT_xifT (pcN := 1391) jI_379_1376 rfl (by decide +kernel) rfl ?_
  refine jT_xgoto (pcN := 3740) jI_379_1391 rfl ?_
  refine jT_xiinc (x := 0) (z := 5) (LN := [(5, (0, 5)), (7, (0, 0)), (6, (0, 2)), (4, (4, 3)), (3, (4, 2)), (2, (4, 1)), (1, (4, 0)), (0, (6, 0))]) (pcN := 3743) jI_379_3740 rfl rfl (by decide) rfl rfl ?_
  refine jT_xgoto (pcN := 28) jI_379_3743 rfl ?_
  refine jT_xiload (v := (0, 5)) (pcN := 30) jI_379_28 rfl rfl rfl ?_
  refine jT_xaload_n (v := (6, 0)) (pcN := 31) jI_379_30 rfl rfl rfl ?_
  refine jT_adv 1 (pcN := 32) (LN := [(5, (0, 5)), (7, (0, 0)), (6, (0, 2)), (4, (4, 3)), (3, (4, 2)), (2, (4, 1)), (1, (4, 0)), (0, (6, 0))]) (stN := [(0, 5), (0, 5)]) (hsN := jpA_607) (c1 := 0) (s1 := 0) (c2 := 0) (s2 := 0) (by exact rfl) ?_ (by omega) (by omega)
  refine jT_xiconst (k := 5) (pcN := 33) jI_379_32 rfl ?_
  refine jT_xisub (x := 5) (y := 5) (z := 0) (pcN := 34) jI_379_33 rfl (by decide) rfl ?_
  refine jT_xicT (pcN := 3746) jI_379_34 rfl (by decide +kernel) rfl ?_
  refine jT_xiconst (k := 1) (pcN := 3747) jI_379_3746 rfl ?_
  exact jT_ret rfl (by decide) (by show 30 ≤ 30; decide) (by omega) (by omega) ⟨rfl, rfl⟩
set_option maxRecDepth 100000 in
theorem jL_13_16 {d : Nat} {x0 x1 x2 x3 x4 : Int} (h_x0 : (-2147483648) ≤ x0 ∧ x0 ≤ 2147483647) (h_x1 : 0 ≤ x1 ∧ x1 ≤ 3) (h_x2 : (-2147483648) ≤ x2 ∧ x2 ≤ 2147483647) (h_x3 : 8 ≤ x3 ∧ x3 ≤ 2147483647) (h_x4 : (-2147483648) ≤ x4 ∧ x4 ≤ 2147483647) : jT [x0, x1, x2, x3, x4] (d + 3) 379 30 1314 [(5, (0, 0)), (4, (4, 3)), (3, (4, 2)), (2, (4, 1)), (1, (4, 0)), (0, (6, 0))] [] jpA_267 1 6 (fun k v hsN => k = 0 ∧ v = (0, 1)) := by
  refine jT_xaload_n (v := (4, 0)) (pcN := 1315) jI_379_1314 rfl rfl rfl ?_
  refine jT_xaload_n (v := (6, 0)) (pcN := 1316) jI_379_1315 rfl rfl rfl ?_
  refine jT_xiload (v := (0, 0)) (pcN := 1318) jI_379_1316 rfl rfl rfl ?_
  refine jT_xiconst (k := 1) (pcN := 1319) jI_379_1318 rfl ?_
  refine jT_xiadd (x := 0) (y := 1) (z := 1) (pcN := 1320) jI_379_1319 rfl (by decide) rfl ?_
  refine jT_adv 1 (pcN := 1321) (LN := [(5, (0, 0)), (4, (4, 3)), (3, (4, 2)), (2, (4, 1)), (1, (4, 0)), (0, (6, 0))]) (stN := [(0, x1), (4, 0)]) (hsN := jpA_267) (c1 := 0) (s1 := 0) (c2 := 1) (s2 := 6) (by exact rfl) ?_ (by omega) (by omega)
  refine jT_xaload_n (v := (6, 0)) (pcN := 1322) jI_379_1321 rfl rfl rfl ?_
  refine jT_xiload (v := (0, 0)) (pcN := 1324) jI_379_1322 rfl rfl rfl ?_
  refine jT_xiconst (k := 2) (pcN := 1325) jI_379_1324 rfl ?_
  refine jT_xiadd (x := 0) (y := 2) (z := 2) (pcN := 1326) jI_379_1325 rfl (by decide) rfl ?_
  refine jT_adv 1 (pcN := 1327) (LN := [(5, (0, 0)), (4, (4, 3)), (3, (4, 2)), (2, (4, 1)), (1, (4, 0)), (0, (6, 0))]) (stN := [(0, x2), (0, x1), (4, 0)]) (hsN := jpA_267) (c1 := 0) (s1 := 0) (c2 := 1) (s2 := 6) (by exact rfl) ?_ (by omega) (by omega)
  refine jT_xaload_n (v := (6, 0)) (pcN := 1328) jI_379_1327 rfl rfl rfl ?_
  refine jT_xiload (v := (0, 0)) (pcN := 1330) jI_379_1328 rfl rfl rfl ?_
  refine jT_xiconst (k := 3) (pcN := 1331) jI_379_1330 rfl ?_
  refine jT_xiadd (x := 0) (y := 3) (z := 3) (pcN := 1332) jI_379_1331 rfl (by decide) rfl ?_
  refine jT_adv 1 (pcN := 1333) (LN := [(5, (0, 0)), (4, (4, 3)), (3, (4, 2)), (2, (4, 1)), (1, (4, 0)), (0, (6, 0))]) (stN := [(0, x3), (0, x2), (0, x1), (4, 0)]) (hsN := jpA_267) (c1 := 0) (s1 := 0) (c2 := 1) (s2 := 6) (by exact rfl) ?_ (by omega) (by omega)
  refine jT_xaload_n (v := (4, 2)) (pcN := 1334) jI_379_1333 rfl rfl rfl ?_
  refine jT_fR [0, 2, 4, 5, 6, 7, 8, 9, 10, 11, 12, 13, 14] 30 (y := 339) (pcN := 1337) (dC := 2) (bc1 := 1) (bc2 := 6) (c1 := 0) (c2 := 0) (as := [(4, 0), (0, x1), (0, x2), (0, x3), (4, 2)]) (asC := [(4, 0), (0, x1), (0, x2), (0, x3), (4, 1)]) (LN := [(5, (0, 0)), (4, (4, 3)), (3, (4, 2)), (2, (4, 1)), (1, (4, 0)), (0, (6, 0))]) (stN := []) (hsC := jpA_15) (v := (0, 1)) (st2 := [(0, 1)]) (jA_339_611 (d := 0) (by omega) (by omega) (by omega)) (by rfl) (by rfl) (by decide +kernel) (by rfl) (by rfl) (by omega) (by omega) (by omega) (by omega) rfl ?_
  refine jT_xistore (v := (0, 1)) (LN := [(6, (0, 1)), (5, (0, 0)), (4, (4, 3)), (3, (4, 2)), (2, (4, 1)), (1, (4, 0)), (0, (6, 0))]) (pcN := 1339) jI_379_1337 rfl rfl rfl rfl ?_
  refine jT_xaload_n (v := (4, 1)) (pcN := 1340) jI_379_1339 rfl rfl rfl ?_
  refine jT_xaload_n (v := (6, 0)) (pcN := 1341) jI_379_1340 rfl rfl rfl ?_
  refine jT_xiload (v := (0, 0)) (pcN := 1343) jI_379_1341 rfl rfl rfl ?_
  refine jT_xiconst (k := 1) (pcN := 1344) jI_379_1343 rfl ?_
  refine jT_xiadd (x := 0) (y := 1) (z := 1) (pcN := 1345) jI_379_1344 rfl (by decide) rfl ?_
  refine jT_adv 1 (pcN := 1346) (LN := [(6, (0, 1)), (5, (0, 0)), (4, (4, 3)), (3, (4, 2)), (2, (4, 1)), (1, (4, 0)), (0, (6, 0))]) (stN := [(0, x1), (4, 1)]) (hsN := jpA_267) (c1 := 0) (s1 := 0) (c2 := 0) (s2 := 0) (by exact rfl) ?_ (by omega) (by omega)
  refine jT_xaload_n (v := (6, 0)) (pcN := 1347) jI_379_1346 rfl rfl rfl ?_
  refine jT_xiload (v := (0, 0)) (pcN := 1349) jI_379_1347 rfl rfl rfl ?_
  refine jT_xiconst (k := 2) (pcN := 1350) jI_379_1349 rfl ?_
  refine jT_xiadd (x := 0) (y := 2) (z := 2) (pcN := 1351) jI_379_1350 rfl (by decide) rfl ?_
  refine jT_adv 1 (pcN := 1352) (LN := [(6, (0, 1)), (5, (0, 0)), (4, (4, 3)), (3, (4, 2)), (2, (4, 1)), (1, (4, 0)), (0, (6, 0))]) (stN := [(0, x2), (0, x1), (4, 1)]) (hsN := jpA_267) (c1 := 0) (s1 := 0) (c2 := 0) (s2 := 0) (by exact rfl) ?_ (by omega) (by omega)
  refine jT_xaload_n (v := (6, 0)) (pcN := 1353) jI_379_1352 rfl rfl rfl ?_
  refine jT_xiload (v := (0, 0)) (pcN := 1355) jI_379_1353 rfl rfl rfl ?_
  refine jT_xiconst (k := 3) (pcN := 1356) jI_379_1355 rfl ?_
  refine jT_xiadd (x := 0) (y := 3) (z := 3) (pcN := 1357) jI_379_1356 rfl (by decide) rfl ?_
  refine jT_adv 1 (pcN := 1358) (LN := [(6, (0, 1)), (5, (0, 0)), (4, (4, 3)), (3, (4, 2)), (2, (4, 1)), (1, (4, 0)), (0, (6, 0))]) (stN := [(0, x3), (0, x2), (0, x1), (4, 1)]) (hsN := jpA_267) (c1 := 0) (s1 := 0) (c2 := 0) (s2 := 0) (by exact rfl) ?_ (by omega) (by omega)
  refine jT_fB [1, 15, 16, 17, 18, 19, 20, 21, 22, 23, 24, 25, 26, 27, 28, 29] 30 (y := 252) (pcN := 1361) (dC := 2) (bc1 := 0) (bc2 := 0) (c1 := 0) (c2 := 0) (as := [(4, 1), (0, x1), (0, x2), (0, x3)]) (asC := [(4, 0), (0, x1), (0, x2), (0, x3)]) (LN := [(6, (0, 1)), (5, (0, 0)), (4, (4, 3)), (3, (4, 2)), (2, (4, 1)), (1, (4, 0)), (0, (6, 0))]) (stN := []) (hsC := jpA_22) (hsD := jpA_20) (v := (0, 0)) (st2 := [(0, 0)]) (hs2 := jpA_306) (jA_252_612 (d := 0) (by omega) (by omega) (by omega)) (by rfl) (by rfl) (by decide +kernel) (by rfl) (by rfl) (by omega) (by omega) (by omega) (by omega) rfl (by decide +kernel) ?_
  refine jT_xistore (v := (0, 0)) (LN := [(7, (0, 0)), (6, (0, 1)), (5, (0, 0)), (4, (4, 3)), (3, (4, 2)), (2, (4, 1)), (1, (4, 0)), (0, (6, 0))]) (pcN := 1363) jI_379_1361 rfl rfl rfl rfl ?_
  refine jT_xaload_n (v := (4, 1)) (pcN := 1364) jI_379_1363 rfl rfl rfl ?_
  refine jT_fR [1, 15, 16, 17, 18, 19, 20, 21, 22, 23, 24, 25, 26, 27, 28, 29] 30 (y := 186) (pcN := 1367) (dC := 0) (bc1 := 0) (bc2 := 0) (c1 := 0) (c2 := 0) (as := [(4, 1)]) (asC := [(4, 0)]) (LN := [(7, (0, 0)), (6, (0, 1)), (5, (0, 0)), (4, (4, 3)), (3, (4, 2)), (2, (4, 1)), (1, (4, 0)), (0, (6, 0))]) (stN := []) (hsC := jpA_20) (v := (0, 1)) (st2 := [(0, 1)]) (jA_186_8 (d := 0)) (by rfl) (by rfl) (by decide +kernel) (by rfl) (by rfl) (by omega) (by omega) (by omega) (by omega) rfl ?_
  refine jT_xiload (v := (0, 1)) (pcN := 1369) jI_379_1367 rfl rfl rfl ?_
  refine jT_xicT (pcN := 1374) jI_379_1369 rfl (by decide +kernel) rfl ?_
  refine jT_xiload (v := (0, 1)) (pcN := 1376) jI_379_1374 rfl rfl rfl ?_
  refine jT_xifT (pcN := 1391) jI_379_1376 rfl (by decide +kernel) rfl ?_
  refine jT_xgoto (pcN := 3740) jI_379_1391 rfl ?_
  refine jT_xiinc (x := 0) (z := 5) (LN := [(5, (0, 5)), (7, (0, 0)), (6, (0, 1)), (4, (4, 3)), (3, (4, 2)), (2, (4, 1)), (1, (4, 0)), (0, (6, 0))]) (pcN := 3743) jI_379_3740 rfl rfl (by decide) rfl rfl ?_
  refine jT_xgoto (pcN := 28) jI_379_3743 rfl ?_
  refine jT_xiload (v := (0, 5)) (pcN := 30) jI_379_28 rfl rfl rfl ?_
  refine jT_xaload_n (v := (6, 0)) (pcN := 31) jI_379_30 rfl rfl rfl ?_
  refine jT_adv 1 (pcN := 32) (LN := [(5, (0, 5)), (7, (0, 0)), (6, (0, 1)), (4, (4, 3)), (3, (4, 2)), (2, (4, 1)), (1, (4, 0)), (0, (6, 0))]) (stN := [(0, 5), (0, 5)]) (hsN := jpA_306) (c1 := 0) (s1 := 0) (c2 := 0) (s2 := 0) (by exact rfl) ?_ (by omega) (by omega)
  refine jT_xiconst (k := 5) (pcN := 33) jI_379_32 rfl ?_
  refine jT_xisub (x := 5) (y := 5) (z := 0) (pcN := 34) jI_379_33 rfl (by decide) rfl ?_
  refine jT_xicT (pcN := 3746) jI_379_34 rfl (by decide +kernel) rfl ?_
  refine jT_xiconst (k := 1) (pcN := 3747) jI_379_3746 rfl ?_
  exact jT_ret rfl (by decide) (by show 30 ≤ 30; decide) (by omega) (by omega) ⟨rfl, rfl⟩
set_option maxRecDepth 100000 in
theorem jL_13_17 {d : Nat} {x0 x1 x2 x3 x4 : Int} (h_x0 : (-2147483648) ≤ x0 ∧ x0 ≤ 2147483647) (h_x1 : 4 ≤ x1 ∧ x1 ≤ 2147483647) (h_x2 : (-2147483648) ≤ x2 ∧ x2 ≤ 2147483647) (h_x3 : (-2147483648) ≤ x3 ∧ x3 ≤ 2147483647) (h_x4 : (-2147483648) ≤ x4 ∧ x4 ≤ 2147483647) : jT [x0, x1, x2, x3, x4] (d + 3) 379 30 1314 [(5, (0, 0)), (4, (4, 3)), (3, (4, 2)), (2, (4, 1)), (1, (4, 0)), (0, (6, 0))] [] jpA_267 1 6 (fun k v hsN => k = 0 ∧ v = (0, 1)) := by
  refine jT_xaload_n (v := (4, 0)) (pcN := 1315) jI_379_1314 rfl rfl rfl ?_
  refine jT_xaload_n (v := (6, 0)) (pcN := 1316) jI_379_1315 rfl rfl rfl ?_
  refine jT_xiload (v := (0, 0)) (pcN := 1318) jI_379_1316 rfl rfl rfl ?_
  refine jT_xiconst (k := 1) (pcN := 1319) jI_379_1318 rfl ?_
  refine jT_xiadd (x := 0) (y := 1) (z := 1) (pcN := 1320) jI_379_1319 rfl (by decide) rfl ?_
  refine jT_adv 1 (pcN := 1321) (LN := [(5, (0, 0)), (4, (4, 3)), (3, (4, 2)), (2, (4, 1)), (1, (4, 0)), (0, (6, 0))]) (stN := [(0, x1), (4, 0)]) (hsN := jpA_267) (c1 := 0) (s1 := 0) (c2 := 1) (s2 := 6) (by exact rfl) ?_ (by omega) (by omega)
  refine jT_xaload_n (v := (6, 0)) (pcN := 1322) jI_379_1321 rfl rfl rfl ?_
  refine jT_xiload (v := (0, 0)) (pcN := 1324) jI_379_1322 rfl rfl rfl ?_
  refine jT_xiconst (k := 2) (pcN := 1325) jI_379_1324 rfl ?_
  refine jT_xiadd (x := 0) (y := 2) (z := 2) (pcN := 1326) jI_379_1325 rfl (by decide) rfl ?_
  refine jT_adv 1 (pcN := 1327) (LN := [(5, (0, 0)), (4, (4, 3)), (3, (4, 2)), (2, (4, 1)), (1, (4, 0)), (0, (6, 0))]) (stN := [(0, x2), (0, x1), (4, 0)]) (hsN := jpA_267) (c1 := 0) (s1 := 0) (c2 := 1) (s2 := 6) (by exact rfl) ?_ (by omega) (by omega)
  refine jT_xaload_n (v := (6, 0)) (pcN := 1328) jI_379_1327 rfl rfl rfl ?_
  refine jT_xiload (v := (0, 0)) (pcN := 1330) jI_379_1328 rfl rfl rfl ?_
  refine jT_xiconst (k := 3) (pcN := 1331) jI_379_1330 rfl ?_
  refine jT_xiadd (x := 0) (y := 3) (z := 3) (pcN := 1332) jI_379_1331 rfl (by decide) rfl ?_
  refine jT_adv 1 (pcN := 1333) (LN := [(5, (0, 0)), (4, (4, 3)), (3, (4, 2)), (2, (4, 1)), (1, (4, 0)), (0, (6, 0))]) (stN := [(0, x3), (0, x2), (0, x1), (4, 0)]) (hsN := jpA_267) (c1 := 0) (s1 := 0) (c2 := 1) (s2 := 6) (by exact rfl) ?_ (by omega) (by omega)
  refine jT_xaload_n (v := (4, 2)) (pcN := 1334) jI_379_1333 rfl rfl rfl ?_
  refine jT_fR [0, 2, 4, 5, 6, 7, 8, 9, 10, 11, 12, 13, 14] 30 (y := 339) (pcN := 1337) (dC := 2) (bc1 := 1) (bc2 := 6) (c1 := 0) (c2 := 0) (as := [(4, 0), (0, x1), (0, x2), (0, x3), (4, 2)]) (asC := [(4, 0), (0, x1), (0, x2), (0, x3), (4, 1)]) (LN := [(5, (0, 0)), (4, (4, 3)), (3, (4, 2)), (2, (4, 1)), (1, (4, 0)), (0, (6, 0))]) (stN := []) (hsC := jpA_15) (v := (0, 1)) (st2 := [(0, 1)]) (jA_339_614 (d := 0) (by omega) (by omega) (by omega)) (by rfl) (by rfl) (by decide +kernel) (by rfl) (by rfl) (by omega) (by omega) (by omega) (by omega) rfl ?_
  refine jT_xistore (v := (0, 1)) (LN := [(6, (0, 1)), (5, (0, 0)), (4, (4, 3)), (3, (4, 2)), (2, (4, 1)), (1, (4, 0)), (0, (6, 0))]) (pcN := 1339) jI_379_1337 rfl rfl rfl rfl ?_
  refine jT_xaload_n (v := (4, 1)) (pcN := 1340) jI_379_1339 rfl rfl rfl ?_
  refine jT_xaload_n (v := (6, 0)) (pcN := 1341) jI_379_1340 rfl rfl rfl ?_
  refine jT_xiload (v := (0, 0)) (pcN := 1343) jI_379_1341 rfl rfl rfl ?_
  refine jT_xiconst (k := 1) (pcN := 1344) jI_379_1343 rfl ?_
  refine jT_xiadd (x := 0) (y := 1) (z := 1) (pcN := 1345) jI_379_1344 rfl (by decide) rfl ?_
  refine jT_adv 1 (pcN := 1346) (LN := [(6, (0, 1)), (5, (0, 0)), (4, (4, 3)), (3, (4, 2)), (2, (4, 1)), (1, (4, 0)), (0, (6, 0))]) (stN := [(0, x1), (4, 1)]) (hsN := jpA_267) (c1 := 0) (s1 := 0) (c2 := 0) (s2 := 0) (by exact rfl) ?_ (by omega) (by omega)
  refine jT_xaload_n (v := (6, 0)) (pcN := 1347) jI_379_1346 rfl rfl rfl ?_
  refine jT_xiload (v := (0, 0)) (pcN := 1349) jI_379_1347 rfl rfl rfl ?_
  refine jT_xiconst (k := 2) (pcN := 1350) jI_379_1349 rfl ?_
  refine jT_xiadd (x := 0) (y := 2) (z := 2) (pcN := 1351) jI_379_1350 rfl (by decide) rfl ?_
  refine jT_adv 1 (pcN := 1352) (LN := [(6, (0, 1)), (5, (0, 0)), (4, (4, 3)), (3, (4, 2)), (2, (4, 1)), (1, (4, 0)), (0, (6, 0))]) (stN := [(0, x2), (0, x1), (4, 1)]) (hsN := jpA_267) (c1 := 0) (s1 := 0) (c2 := 0) (s2 := 0) (by exact rfl) ?_ (by omega) (by omega)
  refine jT_xaload_n (v := (6, 0)) (pcN := 1353) jI_379_1352 rfl rfl rfl ?_
  refine jT_xiload (v := (0, 0)) (pcN := 1355) jI_379_1353 rfl rfl rfl ?_
  refine jT_xiconst (k := 3) (pcN := 1356) jI_379_1355 rfl ?_
  refine jT_xiadd (x := 0) (y := 3) (z := 3) (pcN := 1357) jI_379_1356 rfl (by decide) rfl ?_
  refine jT_adv 1 (pcN := 1358) (LN := [(6, (0, 1)), (5, (0, 0)), (4, (4, 3)), (3, (4, 2)), (2, (4, 1)), (1, (4, 0)), (0, (6, 0))]) (stN := [(0, x3), (0, x2), (0, x1), (4, 1)]) (hsN := jpA_267) (c1 := 0) (s1 := 0) (c2 := 0) (s2 := 0) (by exact rfl) ?_ (by omega) (by omega)
  refine jT_fB [1, 15, 16, 17, 18, 19, 20, 21, 22, 23, 24, 25, 26, 27, 28, 29] 30 (y := 252) (pcN := 1361) (dC := 2) (bc1 := 0) (bc2 := 0) (c1 := 0) (c2 := 0) (as := [(4, 1), (0, x1), (0, x2), (0, x3)]) (asC := [(4, 0), (0, x1), (0, x2), (0, x3)]) (LN := [(6, (0, 1)), (5, (0, 0)), (4, (4, 3)), (3, (4, 2)), (2, (4, 1)), (1, (4, 0)), (0, (6, 0))]) (stN := []) (hsC := jpA_22) (hsD := jpA_20) (v := (0, 0)) (st2 := [(0, 0)]) (hs2 := jpA_306) (jA_252_615 (d := 0) (by omega) (by omega) (by omega)) (by rfl) (by rfl) (by decide +kernel) (by rfl) (by rfl) (by omega) (by omega) (by omega) (by omega) rfl (by decide +kernel) ?_
  refine jT_xistore (v := (0, 0)) (LN := [(7, (0, 0)), (6, (0, 1)), (5, (0, 0)), (4, (4, 3)), (3, (4, 2)), (2, (4, 1)), (1, (4, 0)), (0, (6, 0))]) (pcN := 1363) jI_379_1361 rfl rfl rfl rfl ?_
  refine jT_xaload_n (v := (4, 1)) (pcN := 1364) jI_379_1363 rfl rfl rfl ?_
  refine jT_fR [1, 15, 16, 17, 18, 19, 20, 21, 22, 23, 24, 25, 26, 27, 28, 29] 30 (y := 186) (pcN := 1367) (dC := 0) (bc1 := 0) (bc2 := 0) (c1 := 0) (c2 := 0) (as := [(4, 1)]) (asC := [(4, 0)]) (LN := [(7, (0, 0)), (6, (0, 1)), (5, (0, 0)), (4, (4, 3)), (3, (4, 2)), (2, (4, 1)), (1, (4, 0)), (0, (6, 0))]) (stN := []) (hsC := jpA_20) (v := (0, 1)) (st2 := [(0, 1)]) (jA_186_8 (d := 0)) (by rfl) (by rfl) (by decide +kernel) (by rfl) (by rfl) (by omega) (by omega) (by omega) (by omega) rfl ?_
  refine jT_xiload (v := (0, 1)) (pcN := 1369) jI_379_1367 rfl rfl rfl ?_
  refine jT_xicT (pcN := 1374) jI_379_1369 rfl (by decide +kernel) rfl ?_
  refine jT_xiload (v := (0, 1)) (pcN := 1376) jI_379_1374 rfl rfl rfl ?_
  refine jT_xifT (pcN := 1391) jI_379_1376 rfl (by decide +kernel) rfl ?_
  refine jT_xgoto (pcN := 3740) jI_379_1391 rfl ?_
  refine jT_xiinc (x := 0) (z := 5) (LN := [(5, (0, 5)), (7, (0, 0)), (6, (0, 1)), (4, (4, 3)), (3, (4, 2)), (2, (4, 1)), (1, (4, 0)), (0, (6, 0))]) (pcN := 3743) jI_379_3740 rfl rfl (by decide) rfl rfl ?_
  refine jT_xgoto (pcN := 28) jI_379_3743 rfl ?_
  refine jT_xiload (v := (0, 5)) (pcN := 30) jI_379_28 rfl rfl rfl ?_
  refine jT_xaload_n (v := (6, 0)) (pcN := 31) jI_379_30 rfl rfl rfl ?_
  refine jT_adv 1 (pcN := 32) (LN := [(5, (0, 5)), (7, (0, 0)), (6, (0, 1)), (4, (4, 3)), (3, (4, 2)), (2, (4, 1)), (1, (4, 0)), (0, (6, 0))]) (stN := [(0, 5), (0, 5)]) (hsN := jpA_306) (c1 := 0) (s1 := 0) (c2 := 0) (s2 := 0) (by exact rfl) ?_ (by omega) (by omega)
  refine jT_xiconst (k := 5) (pcN := 33) jI_379_32 rfl ?_
  refine jT_xisub (x := 5) (y := 5) (z := 0) (pcN := 34) jI_379_33 rfl (by decide) rfl ?_
  refine jT_xicT (pcN := 3746) jI_379_34 rfl (by decide +kernel) rfl ?_
  refine jT_xiconst (k := 1) (pcN := 3747) jI_379_3746 rfl ?_
  exact jT_ret rfl (by decide) (by show 30 ≤ 30; decide) (by omega) (by omega) ⟨rfl, rfl⟩
