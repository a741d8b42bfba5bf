/-! the law, case by case: 10 -/
theorem jA_115_310 {xs : List Int} {d : Nat} {x1 : Int} (h_x1 : (-2147483648) ≤ x1 ∧ x1 ≤ (-1)) : jT xs d 115 1 0 [(0, (4, 0)), (1, (0, x1)), (2, (0, 4))] [] [jgh] 1 6 (fun k v hsN => k = 1 ∧ v = (0, 0) ∧ hsN = [jgh] ++ []) := by
  refine jT_xiload_n (v := (0, x1)) (pcN := 1) jI_115_0 rfl rfl rfl ?_
  refine jT_ifT (a := x1) (t := 9) (by rfl) (by rfl) (by rfl) (jw_idd (by omega) (by omega)) (by simp only [jcP] <;> omega) ?_
  exact jT_ret (c1 := 1) (s1 := 6) rfl (by decide) (by show 1 ≤ 1; decide) (by omega) (by omega) ⟨rfl, rfl, rfl⟩
theorem jI_128_0 : jmI (jm 128) 0 = (.aload_n 0, 1) := by rfl
theorem jI_128_1 : jmI (jm 128) 1 = (.iload_n 1, 1) := by rfl
theorem jI_128_2 : jmI (jm 128) 2 = (.iconst 4, 1) := by rfl
theorem jA_128_311 {xs : List Int} {d : Nat} {x1 x2 : Int} (h_x1 : (-2147483648) ≤ x1 ∧ x1 ≤ (-1)) (h_x2 : (-2147483648) ≤ x2 ∧ x2 ≤ 2147483647) : jT xs (d + 1) 128 12 0 [(0, (4, 0)), (1, (0, x1)), (2, (0, x2)), (3, (0, 1))] [] jpA_6 1 6 (fun k v hsN => k = 1 ∧ v = (0, 0) ∧ hsN = jpA_6 ++ []) := by
  refine jT_xaload_n (v := (4, 0)) (pcN := 1) jI_128_0 rfl rfl rfl ?_
  refine jT_xiload_n (v := (0, x1)) (pcN := 2) jI_128_1 rfl rfl rfl ?_
  refine jT_xiconst (k := 4) (pcN := 3) jI_128_2 rfl ?_
  exact jT_fX [0] 12 (y := 115) (pcN := 6) (dC := 0) (bc1 := 1) (bc2 := 6) (as := [(4, 0), (0, x1), (0, 4)]) (asC := [(4, 0), (0, x1), (0, 4)]) (LN := [(0, (4, 0)), (1, (0, x1)), (2, (0, x2)), (3, (0, 1))]) (stN := []) (hsC := [jgh]) (e := 0) (jA_115_310 (d := 0) (by omega)) (by rfl) (by rfl) (by decide +kernel) (by rfl) (by rfl) (by omega) (by omega) (by omega) (by omega) ⟨rfl, ⟨rfl, rfl, rfl⟩⟩
theorem jI_336_0 : jmI (jm 336) 0 = (.aload 4, 2) := by rfl
theorem jI_336_2 : jmI (jm 336) 2 = (.iconst 0, 1) := by rfl
theorem jI_336_3 : jmI (jm 336) 3 = (.aload_n 0, 1) := by rfl
theorem jI_336_4 : jmI (jm 336) 4 = (.iload_n 1, 1) := by rfl
theorem jI_336_5 : jmI (jm 336) 5 = (.iload_n 2, 1) := by rfl
theorem jI_336_6 : jmI (jm 336) 6 = (.iload_n 3, 1) := by rfl
theorem jA_336_312 {xs : List Int} {d : Nat} {x1 x2 : Int} (h_x1 : (-2147483648) ≤ x1 ∧ x1 ≤ (-1)) (h_x2 : (-2147483648) ≤ x2 ∧ x2 ≤ 2147483647) : jT xs (d + 2) 336 13 0 [(0, (4, 0)), (1, (0, x1)), (2, (0, x2)), (3, (0, 1)), (4, (4, 1))] [] jpA_15 1 6 (fun k v hsN => k = 0 ∧ v = (0, 1) ∧ hsN = jpA_15 ++ []) := by
  refine jT_xaload (v := (4, 1)) (pcN := 2) jI_336_0 rfl rfl rfl ?_
  refine jT_xiconst (k := 0) (pcN := 3) jI_336_2 rfl ?_
  refine jT_xaload_n (v := (4, 0)) (pcN := 4) jI_336_3 rfl rfl rfl ?_
  refine jT_xiload_n (v := (0, x1)) (pcN := 5) jI_336_4 rfl rfl rfl ?_
  refine jT_xiload_n (v := (0, x2)) (pcN := 6) jI_336_5 rfl rfl rfl ?_
  refine jT_xiload_n (v := (0, 1)) (pcN := 7) jI_336_6 rfl rfl rfl ?_
  exact jT_fX [0, 2, 3, 4, 5, 6, 7, 8, 9, 10, 11, 12] 13 (y := 128) (pcN := 10) (dC := 1) (bc1 := 1) (bc2 := 6) (as := [(4, 0), (0, x1), (0, x2), (0, 1)]) (asC := [(4, 0), (0, x1), (0, x2), (0, 1)]) (LN := [(0, (4, 0)), (1, (0, x1)), (2, (0, x2)), (3, (0, 1)), (4, (4, 1))]) (stN := [(0, 0), (4, 1)]) (hsC := jpA_6) (e := 0) (jA_128_311 (d := 0) (by omega) (by omega)) (by rfl) (by rfl) (by decide +kernel) (by rfl) (by rfl) (by omega) (by omega) (by omega) (by omega) (show _ from ⟨rfl, rfl, rfl⟩)
theorem jI_238_0 : jmI (jm 238) 0 = (.iload_n 0, 1) := by rfl
theorem jI_238_1 : jmI (jm 238) 1 = (.i2l, 1) := by rfl
theorem jI_238_2 : jmI (jm 238) 2 = (.lconst 0, 1) := by rfl
theorem jA_238_313 {xs : List Int} {d : Nat} {x1 : Int} (h_x1 : (-2147483648) ≤ x1 ∧ x1 ≤ (-1)) : jT xs (d + 1) 238 0 0 [(0, (0, x1))] [] [] 0 0 (fun k v hsN => k = 0 ∧ v = (0, 0) ∧ hsN = [] ++ []) := by
  refine jT_xiload_n (v := (0, x1)) (pcN := 1) jI_238_0 rfl rfl rfl ?_
  refine jT_xi2l (x := x1) (z := x1) (pcN := 2) jI_238_1 rfl (jw_idd (by omega) (by omega)) rfl ?_
  refine jT_xlconst (z := 0) (pcN := 3) jI_238_2 rfl rfl ?_
  refine jT_adv 1 (pcN := 6) (LN := [(0, (0, x1))]) (stN := [(1, 3), (1, 0), (1, x1)]) (hsN := []) (c1 := 0) (s1 := 0) (c2 := 0) (s2 := 0) (by exact rfl) ?_ (by omega) (by omega)
  refine jT_fR [] 0 (y := 189) (pcN := 9) (dC := 0) (bc1 := 0) (bc2 := 0) (c1 := 0) (c2 := 0) (as := [(1, x1), (1, 0), (1, 3)]) (asC := [(1, x1), (1, 0), (1, 3)]) (LN := [(0, (0, x1))]) (stN := []) (hsC := []) (v := (0, 0)) (st2 := [(0, 0)]) (jT_in_lo (d := 0) (v := x1) (lo := 0) (hi := 3) (by omega) (by omega) (by omega) (by omega)) (by rfl) (by rfl) (by decide +kernel) (by rfl) (by rfl) (by omega) (by omega) (by omega) (by omega) rfl ?_
  exact jT_ret rfl (by decide) (by show 0 ≤ 0; decide) (by omega) (by omega) ⟨rfl, rfl, rfl⟩
theorem jI_243_0 : jmI (jm 243) 0 = (.aload_n 0, 1) := by rfl
theorem jI_243_1 : jmI (jm 243) 1 = (.iload_n 1, 1) := by rfl
theorem jI_243_5 : jmI (jm 243) 5 = (.ifCond .eq 14, 3) := by rfl
theorem jI_243_19 : jmI (jm 243) 19 = (.iconst 0, 1) := by rfl
theorem jI_243_23 : jmI (jm 243) 23 = (.ifCond .eq 5, 3) := by rfl
theorem jI_243_26 : jmI (jm 243) 26 = (.iconst 0, 1) := by rfl
theorem jA_243_314 {xs : List Int} {d : Nat} {x1 x2 : Int} (h_x1 : (-2147483648) ≤ x1 ∧ x1 ≤ (-1)) (h_x2 : (-2147483648) ≤ x2 ∧ x2 ≤ 2147483647) : jT xs (d + 2) 243 16 0 [(0, (4, 0)), (1, (0, x1)), (2, (0, x2)), (3, (0, 1))] [] jpA_22 0 0 (fun k v hsN => k = 0 ∧ v = (0, 0) ∧ hsN = jpA_20) := by
  refine jT_xaload_n (v := (4, 0)) (pcN := 1) jI_243_0 rfl rfl rfl ?_
  refine jT_xiload_n (v := (0, x1)) (pcN := 2) jI_243_1 rfl rfl rfl ?_
  refine jT_fR [] 16 (y := 238) (pcN := 5) (dC := 1) (bc1 := 0) (bc2 := 0) (c1 := 0) (c2 := 0) (as := [(0, x1)]) (asC := [(0, x1)]) (LN := [(0, (4, 0)), (1, (0, x1)), (2, (0, x2)), (3, (0, 1))]) (stN := [(4, 0)]) (hsC := []) (v := (0, 0)) (st2 := [(0, 0), (4, 0)]) (jA_238_313 (d := 0) (by omega)) (by rfl) (by rfl) (by decide +kernel) (by rfl) (by rfl) (by omega) (by omega) (by omega) (by omega) rfl ?_
  refine jT_xifT (pcN := 19) jI_243_5 rfl (by decide +kernel) rfl ?_
  refine jT_xiconst (k := 0) (pcN := 20) jI_243_19 rfl ?_
  refine jT_fB [0, 1, 2, 3, 4, 5, 6, 7, 8, 9, 10, 11, 12, 13, 14, 15] 16 (y := 190) (pcN := 23) (dC := 1) (bc1 := 0) (bc2 := 0) (c1 := 0) (c2 := 0) (as := [(4, 0), (0, 0)]) (asC := [(4, 0), (0, 0)]) (LN := [(0, (4, 0)), (1, (0, x1)), (2, (0, x2)), (3, (0, 1))]) (stN := []) (hsC := jpA_22) (hsD := jpA_20) (v := (0, 1)) (st2 := [(0, 1)]) (hs2 := jpA_20) (jA_190_6 (d := 0)) (by rfl) (by rfl) (by decide +kernel) (by rfl) (by rfl) (by omega) (by omega) (by omega) (by omega) rfl (by decide +kernel) ?_
  refine jT_xifF (t := 28) (pcN := 26) jI_243_23 rfl (by decide +kernel) rfl rfl ?_
  refine jT_xiconst (k := 0) (pcN := 27) jI_243_26 rfl ?_
  exact jT_ret rfl (by decide) (by show 16 ≤ 16; decide) (by omega) (by omega) ⟨rfl, rfl, rfl⟩
theorem jA_115_315 {xs : List Int} {d : Nat} {x1 : Int} (h_x1 : 0 ≤ x1 ∧ x1 ≤ 3) : jT xs d 115 1 0 [(0, (4, 0)), (1, (0, x1)), (2, (0, 4))] [] [jgh] 0 0 (fun k v hsN => k = 0 ∧ v = (9, 0) ∧ hsN = [jgh] ++ []) := by
  refine jT_xiload_n (v := (0, x1)) (pcN := 1) jI_115_0 rfl rfl rfl ?_
  refine jT_ifF (a := x1) (t := 9) (by rfl) (by rfl) (by rfl) (jw_idd (by omega) (by omega)) (by simp only [jcP] <;> omega) ?_
  refine jT_xiload_n (v := (0, x1)) (pcN := 5) jI_115_4 rfl rfl rfl ?_
  refine jT_xiload_n (v := (0, 4)) (pcN := 6) jI_115_5 rfl rfl rfl ?_
  refine jT_icT (a := x1) (b := 4) (t := 20) (by rfl) (by rfl) (by rfl) (jw_idd (by omega) (by omega)) (jw_idd (by omega) (by omega)) (by simp only [jcP] <;> omega) ?_
  exact jT_ret rfl (by decide) (by show 1 ≤ 1; decide) (by omega) (by omega) ⟨rfl, rfl, rfl⟩
theorem jI_128_6 : jmI (jm 128) 6 = (.aload_n 0, 1) := by rfl
theorem jI_128_7 : jmI (jm 128) 7 = (.iload_n 2, 1) := by rfl
theorem jI_128_8 : jmI (jm 128) 8 = (.bipush 8, 2) := by rfl
theorem jA_128_316 {xs : List Int} {d : Nat} {x1 x2 : Int} (h_x1 : 0 ≤ x1 ∧ x1 ≤ 3) (h_x2 : (-2147483648) ≤ x2 ∧ x2 ≤ (-1)) : jT xs (d + 1) 128 12 0 [(0, (4, 0)), (1, (0, x1)), (2, (0, x2)), (3, (0, 1))] [] jpA_6 1 6 (fun k v hsN => k = 1 ∧ v = (0, 0) ∧ hsN = jpA_6 ++ []) := by
  refine jT_xaload_n (v := (4, 0)) (pcN := 1) jI_128_0 rfl rfl rfl ?_
  refine jT_xiload_n (v := (0, x1)) (pcN := 2) jI_128_1 rfl rfl rfl ?_
  refine jT_xiconst (k := 4) (pcN := 3) jI_128_2 rfl ?_
  refine jT_fR [0] 12 (y := 115) (pcN := 6) (dC := 0) (bc1 := 0) (bc2 := 0) (c1 := 1) (c2 := 6) (as := [(4, 0), (0, x1), (0, 4)]) (asC := [(4, 0), (0, x1), (0, 4)]) (LN := [(0, (4, 0)), (1, (0, x1)), (2, (0, x2)), (3, (0, 1))]) (stN := []) (hsC := [jgh]) (v := (9, 0)) (st2 := []) (jA_115_315 (d := 0) (by omega)) (by rfl) (by rfl) (by decide +kernel) (by rfl) (by rfl) (by omega) (by omega) (by omega) (by omega) rfl ?_
  refine jT_xaload_n (v := (4, 0)) (pcN := 7) jI_128_6 rfl rfl rfl ?_
  refine jT_xiload_n (v := (0, x2)) (pcN := 8) jI_128_7 rfl rfl rfl ?_
  refine jT_xbipush (k := 8) (pcN := 10) jI_128_8 (by decide) rfl ?_
  exact jT_fX [0] 12 (y := 115) (pcN := 13) (dC := 0) (bc1 := 1) (bc2 := 6) (as := [(4, 0), (0, x2), (0, 8)]) (asC := [(4, 0), (0, x2), (0, 8)]) (LN := [(0, (4, 0)), (1, (0, x1)), (2, (0, x2)), (3, (0, 1))]) (stN := []) (hsC := [jgh]) (e := 0) (jA_115_10 (d := 0) (by omega)) (by rfl) (by rfl) (by decide +kernel) (by rfl) (by rfl) (by omega) (by omega) (by omega) (by omega) ⟨rfl, ⟨rfl, rfl, rfl⟩⟩
theorem jA_336_317 {xs : List Int} {d : Nat} {x1 x2 : Int} (h_x1 : 0 ≤ x1 ∧ x1 ≤ 3) (h_x2 : (-2147483648) ≤ x2 ∧ x2 ≤ (-1)) : jT xs (d + 2) 336 13 0 [(0, (4, 0)), (1, (0, x1)), (2, (0, x2)), (3, (0, 1)), (4, (4, 1))] [] jpA_15 1 6 (fun k v hsN => k = 0 ∧ v = (0, 1) ∧ hsN = jpA_15 ++ []) := by
  refine jT_xaload (v := (4, 1)) (pcN := 2) jI_336_0 rfl rfl rfl ?_
  refine jT_xiconst (k := 0) (pcN := 3) jI_336_2 rfl ?_
  refine jT_xaload_n (v := (4, 0)) (pcN := 4) jI_336_3 rfl rfl rfl ?_
  refine jT_xiload_n (v := (0, x1)) (pcN := 5) jI_336_4 rfl rfl rfl ?_
  refine jT_xiload_n (v := (0, x2)) (pcN := 6) jI_336_5 rfl rfl rfl ?_
  refine jT_xiload_n (v := (0, 1)) (pcN := 7) jI_336_6 rfl rfl rfl ?_
  exact jT_fX [0, 2, 3, 4, 5, 6, 7, 8, 9, 10, 11, 12] 13 (y := 128) (pcN := 10) (dC := 1) (bc1 := 1) (bc2 := 6) (as := [(4, 0), (0, x1), (0, x2), (0, 1)]) (asC := [(4, 0), (0, x1), (0, x2), (0, 1)]) (LN := [(0, (4, 0)), (1, (0, x1)), (2, (0, x2)), (3, (0, 1)), (4, (4, 1))]) (stN := [(0, 0), (4, 1)]) (hsC := jpA_6) (e := 0) (jA_128_316 (d := 0) (by omega) (by omega)) (by rfl) (by rfl) (by decide +kernel) (by rfl) (by rfl) (by omega) (by omega) (by omega) (by omega) (show _ from ⟨rfl, rfl, rfl⟩)
theorem jA_238_318 {xs : List Int} {d : Nat} {x1 : Int} (h_x1 : 0 ≤ x1 ∧ x1 ≤ 3) : jT xs (d + 1) 238 0 0 [(0, (0, x1))] [] [] 0 0 (fun k v hsN => k = 0 ∧ v = (0, 1) ∧ hsN = [] ++ []) := by
  refine jT_xiload_n (v := (0, x1)) (pcN := 1) jI_238_0 rfl rfl rfl ?_
  refine jT_xi2l (x := x1) (z := x1) (pcN := 2) jI_238_1 rfl (jw_idd (by omega) (by omega)) rfl ?_
  refine jT_xlconst (z := 0) (pcN := 3) jI_238_2 rfl rfl ?_
  refine jT_adv 1 (pcN := 6) (LN := [(0, (0, x1))]) (stN := [(1, 3), (1, 0), (1, x1)]) (hsN := []) (c1 := 0) (s1 := 0) (c2 := 0) (s2 := 0) (by exact rfl) ?_ (by omega) (by omega)
  refine jT_fR [] 0 (y := 189) (pcN := 9) (dC := 0) (bc1 := 0) (bc2 := 0) (c1 := 0) (c2 := 0) (as := [(1, x1), (1, 0), (1, 3)]) (asC := [(1, x1), (1, 0), (1, 3)]) (LN := [(0, (0, x1))]) (stN := []) (hsC := []) (v := (0, 1)) (st2 := [(0, 1)]) (jT_in_ok (d := 0) (v := x1) (lo := 0) (hi := 3) (by omega) (by omega) (by omega) (by omega) (by omega)) (by rfl) (by rfl) (by decide +kernel) (by rfl) (by rfl) (by omega) (by omega) (by omega) (by omega) rfl ?_
  exact jT_ret rfl (by decide) (by show 0 ≤ 0; decide) (by omega) (by omega) ⟨rfl, rfl, rfl⟩
theorem jI_243_8 : jmI (jm 243) 8 = (.iload_n 2, 1) := by rfl
theorem jI_243_12 : jmI (jm 243) 12 = (.ifCond .eq 7, 3) := by rfl
theorem jA_243_319 {xs : List Int} {d : Nat} {x1 x2 : Int} (h_x1 : 0 ≤ x1 ∧ x1 ≤ 3) (h_x2 : (-2147483648) ≤ x2 ∧ x2 ≤ (-1)) : jT xs (d + 2) 243 16 0 [(0, (4, 0)), (1, (0, x1)), (2, (0, x2)), (3, (0, 1))] [] jpA_22 0 0 (fun k v hsN => k = 0 ∧ v = (0, 0) ∧ hsN = jpA_20) := by
  refine jT_xaload_n (v := (4, 0)) (pcN := 1) jI_243_0 rfl rfl rfl ?_
  refine jT_xiload_n (v := (0, x1)) (pcN := 2) jI_243_1 rfl rfl rfl ?_
  refine jT_fR [] 16 (y := 238) (pcN := 5) (dC := 1) (bc1 := 0) (bc2 := 0) (c1 := 0) (c2 := 0) (as := [(0, x1)]) (asC := [(0, x1)]) (LN := [(0, (4, 0)), (1, (0, x1)), (2, (0, x2)), (3, (0, 1))]) (stN := [(4, 0)]) (hsC := []) (v := (0, 1)) (st2 := [(0, 1), (4, 0)]) (jA_238_318 (d := 0) (by omega)) (by rfl) (by rfl) (by decide +kernel) (by rfl) (by rfl) (by omega) (by omega) (by omega) (by omega) rfl ?_
  refine jT_xifF (t := 19) (pcN := 8) jI_243_5 rfl (by decide +kernel) rfl rfl ?_
  refine jT_xiload_n (v := (0, x2)) (pcN := 9) jI_243_8 rfl rfl rfl ?_
  refine jT_fR [] 16 (y := 188) (pcN := 12) (dC := 1) (bc1 := 0) (bc2 := 0) (c1 := 0) (c2 := 0) (as := [(0, x2)]) (asC := [(0, x2)]) (LN := [(0, (4, 0)), (1, (0, x1)), (2, (0, x2)), (3, (0, 1))]) (stN := [(4, 0)]) (hsC := []) (v := (0, 0)) (st2 := [(0, 0), (4, 0)]) (jA_188_14 (d := 0) (by omega)) (by rfl) (by rfl) (by decide +kernel) (by rfl) (by rfl) (by omega) (by omega) (by omega) (by omega) rfl ?_
  refine jT_xifT (pcN := 19) jI_243_12 rfl (by decide +kernel) rfl ?_
  refine jT_xiconst (k := 0) (pcN := 20) jI_243_19 rfl ?_
  refine jT_fB [0, 1, 2, 3, 4, 5, 6, 7, 8, 9, 10, 11, 12, 13, 14, 15] 16 (y := 190) (pcN := 23) (dC := 1) (bc1 := 0) (bc2 := 0) (c1 := 0) (c2 := 0) (as := [(4, 0), (0, 0)]) (asC := [(4, 0), (0, 0)]) (LN := [(0, (4, 0)), (1, (0, x1)), (2, (0, x2)), (3, (0, 1))]) (stN := []) (hsC := jpA_22) (hsD := jpA_20) (v := (0, 1)) (st2 := [(0, 1)]) (hs2 := jpA_20) (jA_190_6 (d := 0)) (by rfl) (by rfl) (by decide +kernel) (by rfl) (by rfl) (by omega) (by omega) (by omega) (by omega) rfl (by decide +kernel) ?_
  refine jT_xifF (t := 28) (pcN := 26) jI_243_23 rfl (by decide +kernel) rfl rfl ?_
  refine jT_xiconst (k := 0) (pcN := 27) jI_243_26 rfl ?_
  exact jT_ret rfl (by decide) (by show 16 ≤ 16; decide) (by omega) (by omega) ⟨rfl, rfl, rfl⟩
theorem jA_115_320 {xs : List Int} {d : Nat} {x1 : Int} (h_x1 : 0 ≤ x1 ∧ x1 ≤ 1) : jT xs d 115 1 0 [(0, (4, 0)), (1, (0, x1)), (2, (0, 4))] [] [jgh] 0 0 (fun k v hsN => k = 0 ∧ v = (9, 0) ∧ hsN = [jgh] ++ []) := by
  refine jT_xiload_n (v := (0, x1)) (pcN := 1) jI_115_0 rfl rfl rfl ?_
  refine jT_ifF (a := x1) (t := 9) (by rfl) (by rfl) (by rfl) (jw_idd (by omega) (by omega)) (by simp only [jcP] <;> omega) ?_
  refine jT_xiload_n (v := (0, x1)) (pcN := 5) jI_115_4 rfl rfl rfl ?_
  refine jT_xiload_n (v := (0, 4)) (pcN := 6) jI_115_5 rfl rfl rfl ?_
  refine jT_icT (a := x1) (b := 4) (t := 20) (by rfl) (by rfl) (by rfl) (jw_idd (by omega) (by omega)) (jw_idd (by omega) (by omega)) (by simp only [jcP] <;> omega) ?_
  exact jT_ret rfl (by decide) (by show 1 ≤ 1; decide) (by omega) (by omega) ⟨rfl, rfl, rfl⟩
theorem jA_115_321 {xs : List Int} {d : Nat} : jT xs d 115 1 0 [(0, (4, 0)), (1, (0, 0)), (2, (0, 4))] [] [jgh] 0 0 (fun k v hsN => k = 0 ∧ v = (9, 0) ∧ hsN = [jgh] ++ []) := by
  refine jT_advK 5 (pcN := 20) (LN := [(0, (4, 0)), (1, (0, 0)), (2, (0, 4))]) (stN := []) (hsN := [jgh]) (c1 := 0) (s1 := 0) (c2 := 0) (s2 := 0) (by decide +kernel) ?_ (by omega) (by omega)
  exact jT_ret rfl (by decide) (by show 1 ≤ 1; decide) (by omega) (by omega) ⟨rfl, rfl, rfl⟩
def jpA_1446 : List JC := [jzA_44, jgh, (117, [], [6, 7, 8, 9]), jgh, jgh, jgh, jgh, jgh, jgh, jgh]
theorem jA_56_322 {xs : List Int} {d : Nat} : jT xs d 56 10 0 [(0, (4, 0)), (1, (0, 0))] [] jpA_1446 0 0 (fun k v hsN => k = 0 ∧ v = (4, 6) ∧ hsN = jpA_1446 ++ []) := by
  refine jT_advK 4 (pcN := 6) (LN := [(0, (4, 0)), (1, (0, 0))]) (stN := [(4, 6)]) (hsN := jpA_1446) (c1 := 0) (s1 := 0) (c2 := 0) (s2 := 0) (by decide +kernel) ?_ (by omega) (by omega)
  exact jT_ret rfl (by decide) (by show 10 ≤ 10; decide) (by omega) (by omega) ⟨rfl, rfl, rfl⟩
def jpA_1447 : List JC := [jzA_14, (4, [(4, 13), (1, 1)], []), (8, [(4, 14), (4, 15)], []), jgh, jgh, jgh, jgh, jgh, jgh, (101, [], [0, 0, 0, 0, 0, 0]), jgh, jgh, jgh, (101, [], [0, 0, 0, 0, 0, 0]), jgh, jgh]
def jpA_1448 : List JC := [jzA_14, (4, [(4, 13), (1, 1)], []), (8, [(4, 14), (4, 15)], []), jgh, jgh, jgh, jgh, jgh, jgh, (101, [], [0, 0, 0, 0, 0, 0]), jgh, jgh, jgh, (101, [], [0, 0, 0, 0, 0, 0]), jgh, jgh, (101, [], [0, 0, 0, 0, 0, 0]), (4, [(4, 16), (1, 1)], [])]
theorem jA_127_323 {xs : List Int} {d : Nat} : jT xs (d + 3) 127 16 0 [(0, (4, 0)), (1, (4, 1)), (2, (0, 1))] [] jpA_1447 2 8 (fun k v hsN => k = 0 ∧ v = (4, 17) ∧ hsN = jpA_1447 ++ [(101, [], [0, 0, 0, 0, 0, 0]), (4, [(4, 16), (1, 1)], [])]) := by
  refine jT_advK 112 (pcN := 46) (LN := [(3, (0, 6)), (0, (4, 0)), (1, (4, 1)), (2, (0, 1))]) (stN := [(1, 1), (1, 1), (4, 9), (4, 2), (1, 1), (1, 1), (4, 1)]) (hsN := jpA_1447) (c1 := 0) (s1 := 0) (c2 := 2) (s2 := 8) (by decide +kernel) ?_ (by omega) (by omega)
  refine jT_fR [2, 9, 14, 15] 16 (y := 45) (pcN := 49) (dC := 1) (bc1 := 0) (bc2 := 0) (c1 := 2) (c2 := 8) (as := [(4, 2), (4, 9), (1, 1), (1, 1)]) (asC := [(4, 0), (4, 1), (1, 1), (1, 1)]) (LN := [(3, (0, 6)), (0, (4, 0)), (1, (4, 1)), (2, (0, 1))]) (stN := [(1, 1), (1, 1), (4, 1)]) (hsC := jpA_625) (v := (1, 0)) (st2 := [(1, 0), (1, 1), (1, 1), (4, 1)]) (jA_45_146 (d := 0)) (by rfl) (by rfl) (by decide +kernel) (by rfl) (by rfl) (by omega) (by omega) (by omega) (by omega) rfl ?_
  refine jT_advK 1 (pcN := 50) (LN := [(3, (0, 6)), (0, (4, 0)), (1, (4, 1)), (2, (0, 1))]) (stN := [(1, 0), (1, 1), (1, 1), (4, 1)]) (hsN := jpA_1447) (c1 := 0) (s1 := 0) (c2 := 2) (s2 := 8) (by decide +kernel) ?_ (by omega) (by omega)
  refine jT_fA [1, 13] 16 (y := 10) (pcN := 53) (dC := 2) (bc1 := 2) (bc2 := 8) (c1 := 0) (c2 := 0) (as := [(4, 1), (1, 1), (1, 1), (1, 0)]) (asC := [(4, 0), (1, 1), (1, 1), (1, 0)]) (LN := [(3, (0, 6)), (0, (4, 0)), (1, (4, 1)), (2, (0, 1))]) (stN := []) (hsC := [(4, [(4, 1), (1, 1)], []), (101, [], [0, 0, 0, 0, 0, 0])]) (ex := [(101, [], [0, 0, 0, 0, 0, 0]), (4, [(4, 2), (1, 1)], [])]) (v := (4, 3)) (st2 := [(4, 17)]) (hs2 := jpA_1448) (jA_10_148 (d := 0)) (by rfl) (by rfl) (by decide +kernel) (by rfl) (by rfl) (by omega) (by omega) (by omega) (by omega) rfl (by decide +kernel) ?_
  exact jT_ret rfl (by decide) (by show 16 ≤ 18; decide) (by omega) (by omega) ⟨rfl, rfl, rfl⟩
theorem jA_372_324 {xs : List Int} {d : Nat} : jT xs d 372 0 0 [(0, (1, 0)), (2, (1, 0))] [] [] 0 0 (fun k v hsN => k = 0 ∧ v = (0, 0) ∧ hsN = [] ++ []) := by
  refine jT_advK 10 (pcN := 21) (LN := [(0, (1, 0)), (2, (1, 0))]) (stN := [(0, 0)]) (hsN := []) (c1 := 0) (s1 := 0) (c2 := 0) (s2 := 0) (by decide +kernel) ?_ (by omega) (by omega)
  exact jT_ret rfl (by decide) (by show 0 ≤ 0; decide) (by omega) (by omega) ⟨rfl, rfl, rfl⟩
theorem jA_38_325 {xs : List Int} {d : Nat} : jT xs (d + 1) 38 3 0 [(0, (4, 0)), (1, (4, 1))] [] [(8, [(4, 2), (4, 1)], []), (101, [], [0, 0, 0, 0, 0, 0]), jgh] 0 0 (fun k v hsN => k = 0 ∧ v = (0, 0) ∧ hsN = [(8, [(4, 2), (4, 1)], []), (101, [], [0, 0, 0, 0, 0, 0]), jgh] ++ []) := by
  refine jT_advK 2 (pcN := 2) (LN := [(0, (4, 0)), (1, (4, 1))]) (stN := [(4, 1), (4, 0)]) (hsN := [(8, [(4, 2), (4, 1)], []), (101, [], [0, 0, 0, 0, 0, 0]), jgh]) (c1 := 0) (s1 := 0) (c2 := 0) (s2 := 0) (by decide +kernel) ?_ (by omega) (by omega)
  refine jT_fR [0, 1] 3 (y := 39) (pcN := 5) (dC := 0) (bc1 := 0) (bc2 := 0) (c1 := 0) (c2 := 0) (as := [(4, 0), (4, 1)]) (asC := [(4, 0), (4, 1)]) (LN := [(0, (4, 0)), (1, (4, 1))]) (stN := []) (hsC := [jgh, (101, [], [0, 0, 0, 0, 0, 0])]) (v := (1, 0)) (st2 := [(1, 0)]) (jA_39_144 (d := 0)) (by rfl) (by rfl) (by decide +kernel) (by rfl) (by rfl) (by omega) (by omega) (by omega) (by omega) rfl ?_
  refine jT_advK 9 (pcN := 16) (LN := [(2, (1, 0)), (0, (4, 0)), (1, (4, 1))]) (stN := [(1, 0), (1, 0)]) (hsN := [(8, [(4, 2), (4, 1)], []), (101, [], [0, 0, 0, 0, 0, 0]), jgh]) (c1 := 0) (s1 := 0) (c2 := 0) (s2 := 0) (by decide +kernel) ?_ (by omega) (by omega)
  refine jT_fR [] 3 (y := 372) (pcN := 19) (dC := 0) (bc1 := 0) (bc2 := 0) (c1 := 0) (c2 := 0) (as := [(1, 0), (1, 0)]) (asC := [(1, 0), (1, 0)]) (LN := [(2, (1, 0)), (0, (4, 0)), (1, (4, 1))]) (stN := []) (hsC := []) (v := (0, 0)) (st2 := [(0, 0)]) (jA_372_324 (d := 0)) (by rfl) (by rfl) (by decide +kernel) (by rfl) (by rfl) (by omega) (by omega) (by omega) (by omega) rfl ?_
  exact jT_ret rfl (by decide) (by show 3 ≤ 3; decide) (by omega) (by omega) ⟨rfl, rfl, rfl⟩
def jpA_1449 : List JC := [(8, [(4, 3), (4, 4)], []), (4, [(4, 5), (1, 1)], []), (4, [(4, 6), (1, 1)], []), jgh, (101, [], [0, 0, 0, 0, 0, 0]), (101, [], [0, 0, 0, 0, 0, 0]), (101, [], [0, 0, 0, 0, 0, 0])]
theorem jA_46_326 {xs : List Int} {d : Nat} : jT xs (d + 2) 46 7 0 [(0, (4, 0)), (1, (4, 1)), (2, (4, 2))] [] jpA_1449 0 0 (fun k v hsN => k = 0 ∧ v = (0, 0) ∧ hsN = jpA_1449 ++ []) := by
  refine jT_advK 152 (pcN := 48) (LN := [(3, (0, 6)), (0, (4, 0)), (1, (4, 1)), (2, (4, 2))]) (stN := [(4, 4), (4, 0)]) (hsN := jpA_1449) (c1 := 0) (s1 := 0) (c2 := 0) (s2 := 0) (by decide +kernel) ?_ (by omega) (by omega)
  refine jT_fR [0, 4, 3] 7 (y := 38) (pcN := 51) (dC := 1) (bc1 := 0) (bc2 := 0) (c1 := 0) (c2 := 0) (as := [(4, 0), (4, 4)]) (asC := [(4, 0), (4, 1)]) (LN := [(3, (0, 6)), (0, (4, 0)), (1, (4, 1)), (2, (4, 2))]) (stN := []) (hsC := [(8, [(4, 2), (4, 1)], []), (101, [], [0, 0, 0, 0, 0, 0]), jgh]) (v := (0, 0)) (st2 := [(0, 0)]) (jA_38_325 (d := 0)) (by rfl) (by rfl) (by decide +kernel) (by rfl) (by rfl) (by omega) (by omega) (by omega) (by omega) rfl ?_
  exact jT_ret rfl (by decide) (by show 7 ≤ 7; decide) (by omega) (by omega) ⟨rfl, rfl, rfl⟩
def jpA_1450 : List JC := [(8, [(4, 3), (4, 4)], []), (114, [], [5]), (4, [(4, 6), (1, 1)], []), jgh, (101, [], [0, 0, 0, 0, 0, 0]), (4, [(4, 7), (1, 1)], []), (101, [], [0, 0, 0, 0, 0, 0]), (101, [], [0, 0, 0, 0, 0, 0])]
theorem jA_48_327 {xs : List Int} {d : Nat} : jT xs (d + 3) 48 8 0 [(0, (4, 0)), (1, (4, 1)), (2, (0, 1)), (3, (4, 2))] [] jpA_1450 0 0 (fun k v hsN => k = 0 ∧ v = (0, 0) ∧ hsN = jpA_1450 ++ []) := by
  refine jT_advK 21 (pcN := 33) (LN := [(6, (0, 0)), (5, (0, 1)), (4, (0, 0)), (0, (4, 0)), (1, (4, 1)), (2, (0, 1)), (3, (4, 2))]) (stN := [(4, 2), (4, 5), (4, 0)]) (hsN := jpA_1450) (c1 := 0) (s1 := 0) (c2 := 0) (s2 := 0) (by decide +kernel) ?_ (by omega) (by omega)
  refine jT_fR [0, 5, 2, 3, 4, 7, 6] 8 (y := 46) (pcN := 36) (dC := 2) (bc1 := 0) (bc2 := 0) (c1 := 0) (c2 := 0) (as := [(4, 0), (4, 5), (4, 2)]) (asC := [(4, 0), (4, 1), (4, 2)]) (LN := [(6, (0, 0)), (5, (0, 1)), (4, (0, 0)), (0, (4, 0)), (1, (4, 1)), (2, (0, 1)), (3, (4, 2))]) (stN := []) (hsC := jpA_1449) (v := (0, 0)) (st2 := [(0, 0)]) (jA_46_326 (d := 0)) (by rfl) (by rfl) (by decide +kernel) (by rfl) (by rfl) (by omega) (by omega) (by omega) (by omega) rfl ?_
  refine jT_advK 4 (pcN := 45) (LN := [(7, (0, 0)), (6, (0, 0)), (5, (0, 1)), (4, (0, 0)), (0, (4, 0)), (1, (4, 1)), (2, (0, 1)), (3, (4, 2))]) (stN := [(0, 0)]) (hsN := jpA_1450) (c1 := 0) (s1 := 0) (c2 := 0) (s2 := 0) (by decide +kernel) ?_ (by omega) (by omega)
  exact jT_ret rfl (by decide) (by show 8 ≤ 8; decide) (by omega) (by omega) ⟨rfl, rfl, rfl⟩
def jpA_1451 : List JC := [(7, [(4, 3), (4, (-1)), (4, (-1))], []), (4, [(4, 4), (1, 1)], []), (8, [(4, 5), (4, 6)], []), (114, [], [7]), (101, [], [0, 0, 0, 0, 0, 0]), jgh, (101, [], [0, 0, 0, 0, 0, 0]), (4, [(4, 8), (1, 1)], []), (101, [], [0, 0, 0, 0, 0, 0])]
theorem jA_33_328 {xs : List Int} {d : Nat} : jT xs (d + 4) 33 9 0 [(0, (4, 0)), (1, (4, 1)), (2, (4, 2))] [] jpA_1451 0 0 (fun k v hsN => k = 0 ∧ v = (0, 0) ∧ hsN = jpA_1451 ++ []) := by
  refine jT_advK 7 (pcN := 11) (LN := [(0, (4, 0)), (1, (4, 1)), (2, (4, 2))]) (stN := [(4, 1), (0, 1), (4, 3), (4, 2)]) (hsN := jpA_1451) (c1 := 0) (s1 := 0) (c2 := 0) (s2 := 0) (by decide +kernel) ?_ (by omega) (by omega)
  refine jT_fR [2, 3, 1, 5, 6, 7, 4, 8] 9 (y := 48) (pcN := 14) (dC := 3) (bc1 := 0) (bc2 := 0) (c1 := 0) (c2 := 0) (as := [(4, 2), (4, 3), (0, 1), (4, 1)]) (asC := [(4, 0), (4, 1), (0, 1), (4, 2)]) (LN := [(0, (4, 0)), (1, (4, 1)), (2, (4, 2))]) (stN := []) (hsC := jpA_1450) (v := (0, 0)) (st2 := [(0, 0)]) (jA_48_327 (d := 0)) (by rfl) (by rfl) (by decide +kernel) (by rfl) (by rfl) (by omega) (by omega) (by omega) (by omega) rfl ?_
  exact jT_ret rfl (by decide) (by show 9 ≤ 9; decide) (by omega) (by omega) ⟨rfl, rfl, rfl⟩
def jpA_1452 : List JC := [(8, [(4, 3), (4, 4)], []), (114, [], [5, (-1)]), (4, [(4, 6), (1, 1)], []), jgh, (101, [], [0, 0, 0, 0, 0, 0]), (4, [(4, 7), (1, 1)], []), (101, [], [0, 0, 0, 0, 0, 0]), (101, [], [0, 0, 0, 0, 0, 0])]
theorem jA_48_329 {xs : List Int} {d : Nat} : jT xs (d + 3) 48 8 0 [(0, (4, 0)), (1, (4, 1)), (2, (0, 1)), (3, (4, 2))] [] jpA_1452 0 0 (fun k v hsN => k = 0 ∧ v = (0, 0) ∧ hsN = jpA_1452 ++ []) := by
  refine jT_advK 21 (pcN := 33) (LN := [(6, (0, 0)), (5, (0, 1)), (4, (0, 0)), (0, (4, 0)), (1, (4, 1)), (2, (0, 1)), (3, (4, 2))]) (stN := [(4, 2), (4, 5), (4, 0)]) (hsN := jpA_1452) (c1 := 0) (s1 := 0) (c2 := 0) (s2 := 0) (by decide +kernel) ?_ (by omega) (by omega)
  refine jT_fR [0, 5, 2, 3, 4, 7, 6] 8 (y := 46) (pcN := 36) (dC := 2) (bc1 := 0) (bc2 := 0) (c1 := 0) (c2 := 0) (as := [(4, 0), (4, 5), (4, 2)]) (asC := [(4, 0), (4, 1), (4, 2)]) (LN := [(6, (0, 0)), (5, (0, 1)), (4, (0, 0)), (0, (4, 0)), (1, (4, 1)), (2, (0, 1)), (3, (4, 2))]) (stN := []) (hsC := jpA_1449) (v := (0, 0)) (st2 := [(0, 0)]) (jA_46_326 (d := 0)) (by rfl) (by rfl) (by decide +kernel) (by rfl) (by rfl) (by omega) (by omega) (by omega) (by omega) rfl ?_
  refine jT_advK 4 (pcN := 45) (LN := [(7, (0, 0)), (6, (0, 0)), (5, (0, 1)), (4, (0, 0)), (0, (4, 0)), (1, (4, 1)), (2, (0, 1)), (3, (4, 2))]) (stN := [(0, 0)]) (hsN := jpA_1452) (c1 := 0) (s1 := 0) (c2 := 0) (s2 := 0) (by decide +kernel) ?_ (by omega) (by omega)
  exact jT_ret rfl (by decide) (by show 8 ≤ 8; decide) (by omega) (by omega) ⟨rfl, rfl, rfl⟩
theorem jA_49_330 {xs : List Int} {d : Nat} : jT xs (d + 4) 49 8 0 [(0, (4, 0)), (1, (4, 1)), (2, (0, 1)), (3, (4, 2))] [] jpA_1452 0 0 (fun k v hsN => k = 0 ∧ v = (0, 1) ∧ hsN = jpA_1452 ++ []) := by
  refine jT_advK 4 (pcN := 4) (LN := [(0, (4, 0)), (1, (4, 1)), (2, (0, 1)), (3, (4, 2))]) (stN := [(4, 2), (0, 1), (4, 1), (4, 0)]) (hsN := jpA_1452) (c1 := 0) (s1 := 0) (c2 := 0) (s2 := 0) (by decide +kernel) ?_ (by omega) (by omega)
  refine jT_fR [0, 1, 2, 3, 4, 5, 6, 7] 8 (y := 48) (pcN := 7) (dC := 3) (bc1 := 0) (bc2 := 0) (c1 := 0) (c2 := 0) (as := [(4, 0), (4, 1), (0, 1), (4, 2)]) (asC := [(4, 0), (4, 1), (0, 1), (4, 2)]) (LN := [(0, (4, 0)), (1, (4, 1)), (2, (0, 1)), (3, (4, 2))]) (stN := []) (hsC := jpA_1452) (v := (0, 0)) (st2 := [(0, 0)]) (jA_48_329 (d := 0)) (by rfl) (by rfl) (by decide +kernel) (by rfl) (by rfl) (by omega) (by omega) (by omega) (by omega) rfl ?_
  refine jT_advK 4 (pcN := 21) (LN := [(4, (0, 0)), (0, (4, 0)), (1, (4, 1)), (2, (0, 1)), (3, (4, 2))]) (stN := [(0, 1)]) (hsN := jpA_1452) (c1 := 0) (s1 := 0) (c2 := 0) (s2 := 0) (by decide +kernel) ?_ (by omega) (by omega)
  exact jT_ret rfl (by decide) (by show 8 ≤ 8; decide) (by omega) (by omega) ⟨rfl, rfl, rfl⟩
def jzA_1453 : JC := (7, [(4, (-1)), (4, (-1)), (4, (-1))], [])
theorem jA_28_331 {xs : List Int} {d : Nat} : jT xs d 28 2 0 [(0, (4, 0)), (1, (4, 1))] [] [jzA_1453, jgh] 0 0 (fun k v hsN => k = 0 ∧ v = (9, 0) ∧ hsN = [(7, [(4, 1), (4, (-1)), (4, (-1))], []), jgh]) := by
  refine jT_advK 5 (pcN := 9) (LN := [(0, (4, 0)), (1, (4, 1))]) (stN := []) (hsN := [(7, [(4, 1), (4, (-1)), (4, (-1))], []), jgh]) (c1 := 0) (s1 := 0) (c2 := 0) (s2 := 0) (by decide +kernel) ?_ (by omega) (by omega)
  exact jT_ret rfl (by decide) (by show 2 ≤ 2; decide) (by omega) (by omega) ⟨rfl, rfl, rfl⟩
def jpA_1454 : List JC := [(114, [], [1, (-1)]), (4, [(4, 2), (1, 1)], []), jgh, (114, [], [1]), jzA_1453]
def jpA_1455 : List JC := [(114, [], [1, (-1)]), (4, [(4, 2), (1, 1)], []), jgh, (114, [], [1]), (7, [(4, 3), (4, (-1)), (4, (-1))], [])]
theorem jA_27_332 {xs : List Int} {d : Nat} : jT xs (d + 1) 27 3 0 [(0, (4, 0)), (1, (0, 1))] [] [(114, [], [1, (-1)]), (4, [(4, 2), (1, 1)], []), jgh] 2 4 (fun k v hsN => k = 0 ∧ v = (4, 4) ∧ hsN = [(114, [], [1, (-1)]), (4, [(4, 2), (1, 1)], []), jgh] ++ [(114, [], [1]), (7, [(4, 3), (4, (-1)), (4, (-1))], [])]) := by
  refine jT_advK 29 (pcN := 39) (LN := [(3, (0, 1)), (2, (4, 3)), (0, (4, 0)), (1, (0, 1))]) (stN := [(4, 3), (4, 4), (4, 4)]) (hsN := jpA_1454) (c1 := 2) (s1 := 4) (c2 := 0) (s2 := 0) (by decide +kernel) ?_ (by omega) (by omega)
  refine jT_fB [4, 3] 5 (y := 28) (pcN := 42) (dC := 0) (bc1 := 0) (bc2 := 0) (c1 := 0) (c2 := 0) (as := [(4, 4), (4, 3)]) (asC := [(4, 0), (4, 1)]) (LN := [(3, (0, 1)), (2, (4, 3)), (0, (4, 0)), (1, (0, 1))]) (stN := [(4, 4)]) (hsC := [jzA_1453, jgh]) (hsD := [(7, [(4, 1), (4, (-1)), (4, (-1))], []), jgh]) (v := (9, 0)) (st2 := [(4, 4)]) (hs2 := jpA_1455) (jA_28_331 (d := 0)) (by rfl) (by rfl) (by decide +kernel) (by rfl) (by rfl) (by omega) (by omega) (by omega) (by omega) rfl (by decide +kernel) ?_
  exact jT_ret rfl (by decide) (by show 3 ≤ 5; decide) (by omega) (by omega) ⟨rfl, rfl, rfl⟩
def jpA_1456 : List JC := [(7, [(4, 3), (4, (-1)), (4, (-1))], []), (4, [(4, 4), (1, 1)], []), (8, [(4, 5), (4, 6)], []), (114, [], [7]), (101, [], [0, 0, 0, 0, 0, 0]), jgh, (101, [], [0, 0, 0, 0, 0, 0]), (4, [(4, 8), (1, 1)], []), (101, [], [0, 0, 0, 0, 0, 0]), (114, [], [7, (-1)])]
def jpA_1457 : List JC := [(7, [(4, 3), (4, (-1)), (4, (-1))], []), (4, [(4, 4), (1, 1)], []), (8, [(4, 5), (4, 6)], []), (114, [], [7]), (101, [], [0, 0, 0, 0, 0, 0]), jgh, (101, [], [0, 0, 0, 0, 0, 0]), (4, [(4, 8), (1, 1)], []), (101, [], [0, 0, 0, 0, 0, 0]), (114, [], [7, (-1)]), (114, [], [7]), (7, [(4, 10), (4, (-1)), (4, (-1))], [])]
theorem jA_34_333 {xs : List Int} {d : Nat} : jT xs (d + 5) 34 9 0 [(0, (4, 0)), (1, (4, 1)), (2, (4, 2))] [] jpA_1451 3 6 (fun k v hsN => k = 0 ∧ v = (4, 11) ∧ hsN = jpA_1451 ++ [(114, [], [7, (-1)]), (114, [], [7]), (7, [(4, 10), (4, (-1)), (4, (-1))], [])]) := by
  refine jT_advK 35 (pcN := 50) (LN := [(4, (0, 1)), (3, (4, 9)), (0, (4, 0)), (1, (4, 1)), (2, (4, 2))]) (stN := [(4, 1), (0, 1), (4, 9), (4, 2), (4, 9)]) (hsN := jpA_1456) (c1 := 1) (s1 := 2) (c2 := 2) (s2 := 4) (by decide +kernel) ?_ (by omega) (by omega)
  refine jT_fR [2, 9, 1, 5, 6, 7, 4, 8] 10 (y := 49) (pcN := 53) (dC := 4) (bc1 := 0) (bc2 := 0) (c1 := 2) (c2 := 4) (as := [(4, 2), (4, 9), (0, 1), (4, 1)]) (asC := [(4, 0), (4, 1), (0, 1), (4, 2)]) (LN := [(4, (0, 1)), (3, (4, 9)), (0, (4, 0)), (1, (4, 1)), (2, (4, 2))]) (stN := [(4, 9)]) (hsC := jpA_1452) (v := (0, 1)) (st2 := [(0, 1), (4, 9)]) (jA_49_330 (d := 0)) (by rfl) (by rfl) (by decide +kernel) (by rfl) (by rfl) (by omega) (by omega) (by omega) (by omega) rfl ?_
  refine jT_fA [9, 7, 8] 10 (y := 27) (pcN := 56) (dC := 1) (bc1 := 2) (bc2 := 4) (c1 := 0) (c2 := 0) (as := [(4, 9), (0, 1)]) (asC := [(4, 0), (0, 1)]) (LN := [(4, (0, 1)), (3, (4, 9)), (0, (4, 0)), (1, (4, 1)), (2, (4, 2))]) (stN := []) (hsC := [(114, [], [1, (-1)]), (4, [(4, 2), (1, 1)], []), jgh]) (ex := [(114, [], [1]), (7, [(4, 3), (4, (-1)), (4, (-1))], [])]) (v := (4, 4)) (st2 := [(4, 11)]) (hs2 := jpA_1457) (jA_27_332 (d := 0)) (by rfl) (by rfl) (by decide +kernel) (by rfl) (by rfl) (by omega) (by omega) (by omega) (by omega) rfl (by decide +kernel) ?_
  exact jT_ret rfl (by decide) (by show 9 ≤ 12; decide) (by omega) (by omega) ⟨rfl, rfl, rfl⟩
def jpA_1458 : List JC := [jzA_55, (7, [(4, 7), (4, (-1)), (4, (-1))], []), jgh, (117, [], [8, 9, 10, 11]), jgh, jgh, jgh, jgh, jgh, jgh, jgh, jgh, (117, [], [1, 9, 10, 11]), jzA_51]
def jzA_1459 : JC := (9, [(4, 2), (4, 12), (4, 4), (4, 5), (4, 6)], [])
def jpA_1460 : List JC := [jzA_55, (7, [(4, 7), (4, (-1)), (4, (-1))], []), jgh, (117, [], [8, 9, 10, 11]), jgh, jgh, jgh, jgh, jgh, jgh, jgh, jgh, (117, [], [1, 9, 10, 11]), jzA_1459]
def jpA_1461 : List JC := [jzA_55, (7, [(4, 7), (4, (-1)), (4, (-1))], []), jgh, (117, [], [8, 9, 10, 11]), jgh, jgh, jgh, jgh, jgh, jgh, jgh, jgh]
theorem jA_60_334 {xs : List Int} {d : Nat} : jT xs (d + 1) 60 12 0 [(0, (4, 0)), (1, (0, 0)), (2, (4, 1))] [] jpA_1461 2 9 (fun k v hsN => k = 0 ∧ v = (4, 13) ∧ hsN = jpA_1461 ++ [(117, [], [1, 9, 10, 11]), jzA_1459]) := by
  refine jT_advK 20 (pcN := 36) (LN := [(3, (4, 12)), (0, (4, 0)), (1, (0, 0)), (2, (4, 1))]) (stN := [(4, 6), (4, 5), (4, 4), (4, 12), (4, 2), (4, 13), (4, 13)]) (hsN := jpA_1458) (c1 := 2) (s1 := 9) (c2 := 0) (s2 := 0) (by decide +kernel) ?_ (by omega) (by omega)
  refine jT_fB [13, 2, 12, 4, 5, 6] 14 (y := 53) (pcN := 39) (dC := 0) (bc1 := 0) (bc2 := 0) (c1 := 0) (c2 := 0) (as := [(4, 13), (4, 2), (4, 12), (4, 4), (4, 5), (4, 6)]) (asC := [(4, 0), (4, 1), (4, 2), (4, 3), (4, 4), (4, 5)]) (LN := [(3, (4, 12)), (0, (4, 0)), (1, (0, 0)), (2, (4, 1))]) (stN := [(4, 13)]) (hsC := jpA_52) (hsD := jpA_50) (v := (9, 0)) (st2 := [(4, 13)]) (hs2 := jpA_1460) (jA_53_32 (d := 0)) (by rfl) (by rfl) (by decide +kernel) (by rfl) (by rfl) (by omega) (by omega) (by omega) (by omega) rfl (by decide +kernel) ?_
  exact jT_ret rfl (by decide) (by show 12 ≤ 14; decide) (by omega) (by omega) ⟨rfl, rfl, rfl⟩
theorem jI_128_13 : jmI (jm 128) 13 = (.aload_n 0, 1) := by rfl
theorem jI_128_14 : jmI (jm 128) 14 = (.getfield 67, 3) := by rfl
theorem jI_128_17 : jmI (jm 128) 17 = (.iload_n 1, 1) := by rfl
theorem jI_128_21 : jmI (jm 128) 21 = (.astore 4, 2) := by rfl
theorem jI_128_23 : jmI (jm 128) 23 = (.aload_n 0, 1) := by rfl
theorem jI_128_24 : jmI (jm 128) 24 = (.aload_n 0, 1) := by rfl
theorem jI_128_25 : jmI (jm 128) 25 = (.getfield 67, 3) := by rfl
theorem jI_128_28 : jmI (jm 128) 28 = (.iload_n 2, 1) := by rfl
theorem jI_128_32 : jmI (jm 128) 32 = (.iconst 1, 1) := by rfl
def jpA_1471 : List JC := [jzA_5, (8, [(4, 12), (4, 13)], []), jgh, jgh, jgh, jgh, jgh, jgh, (101, [], [0, 0, 0, 0, 0, 0]), jgh, jzA_79, jzA_640, jgh, (101, [], [0, 0, 0, 0, 0, 0]), jzA_641, (117, [], [20, 21, 22, 23]), jgh, jgh, jgh, (4, [(4, 24), (1, 1)], []), (7, [(4, 25), (4, (-1)), (4, (-1))], []), jgh, jgh, jgh, (101, [], [0, 0, 0, 0, 0, 0]), (114, [], [19]), (101, [], [0, 0, 0, 0, 0, 0]), (4, [(4, 26), (1, 1)], [])]
theorem jI_128_36 : jmI (jm 128) 36 = (.astore 5, 2) := by rfl
theorem jI_128_38 : jmI (jm 128) 38 = (.aload 4, 2) := by rfl
theorem jI_128_40 : jmI (jm 128) 40 = (.aload 5, 2) := by rfl
theorem jI_128_42 : jmI (jm 128) 42 = (.aload_n 0, 1) := by rfl
theorem jI_128_43 : jmI (jm 128) 43 = (.getfield 10, 3) := by rfl
theorem jI_128_49 : jmI (jm 128) 49 = (.istore 6, 2) := by rfl
theorem jI_128_51 : jmI (jm 128) 51 = (.iload_n 3, 1) := by rfl
theorem jI_128_52 : jmI (jm 128) 52 = (.ifCond .ne 27, 3) := by rfl
theorem jI_128_79 : jmI (jm 128) 79 = (.iload_n 3, 1) := by rfl
theorem jI_128_80 : jmI (jm 128) 80 = (.ifCond .eq 28, 3) := by rfl
theorem jI_128_83 : jmI (jm 128) 83 = (.iload 6, 2) := by rfl
theorem jI_128_85 : jmI (jm 128) 85 = (.ifCond .ge 23, 3) := by rfl
theorem jI_128_108 : jmI (jm 128) 108 = (.iload_n 3, 1) := by rfl
theorem jI_128_109 : jmI (jm 128) 109 = (.ifCond .eq 9, 3) := by rfl
theorem jI_128_112 : jmI (jm 128) 112 = (.aload_n 0, 1) := by rfl
theorem jI_128_113 : jmI (jm 128) 113 = (.aload 5, 2) := by rfl
theorem jI_128_118 : jmI (jm 128) 118 = (.aload_n 0, 1) := by rfl
theorem jI_128_119 : jmI (jm 128) 119 = (.aload_n 0, 1) := by rfl
theorem jI_128_120 : jmI (jm 128) 120 = (.getfield 67, 3) := by rfl
theorem jI_128_123 : jmI (jm 128) 123 = (.iload_n 1, 1) := by rfl
theorem jI_128_124 : jmI (jm 128) 124 = (.iload_n 3, 1) := by rfl
theorem jI_128_125 : jmI (jm 128) 125 = (.ifCond .eq 17, 3) := by rfl
theorem jI_128_128 : jmI (jm 128) 128 = (.aload 4, 2) := by rfl
theorem jI_128_130 : jmI (jm 128) 130 = (.aload 5, 2) := by rfl
theorem jI_128_132 : jmI (jm 128) 132 = (.aload_n 0, 1) := by rfl
theorem jI_128_133 : jmI (jm 128) 133 = (.getfield 10, 3) := by rfl
def jpA_1498 : List JC := [jzA_5, (8, [(4, 12), (4, 13)], []), jgh, jgh, jgh, jgh, jgh, jgh, (101, [], [0, 0, 0, 0, 0, 0]), jgh, jzA_79, jzA_640, jgh, (101, [], [0, 0, 0, 0, 0, 0]), jzA_641, (117, [], [20, 21, 22, 23]), jgh, jgh, jgh, (4, [(4, 24), (1, 1)], []), (7, [(4, 25), (4, (-1)), (4, (-1))], []), jgh, jgh, jgh, (101, [], [0, 0, 0, 0, 0, 0]), (114, [], [19]), (101, [], [0, 0, 0, 0, 0, 0]), (4, [(4, 26), (1, 1)], []), (114, [], [19, (-1)]), (114, [], [19]), (7, [(4, 29), (4, (-1)), (4, (-1))], [])]
theorem jI_128_139 : jmI (jm 128) 139 = (.goto 10, 3) := by rfl
def jzA_1500 : JC := (9, [(4, 14), (4, 31), (4, 16), (4, 17), (4, 18)], [])
def jpA_1501 : List JC := [jzA_5, (8, [(4, 12), (4, 13)], []), jgh, jgh, jgh, jgh, jgh, jgh, (101, [], [0, 0, 0, 0, 0, 0]), jgh, jzA_79, jzA_640, jgh, (101, [], [0, 0, 0, 0, 0, 0]), jzA_641, (117, [], [20, 21, 22, 23]), jgh, jgh, jgh, (4, [(4, 24), (1, 1)], []), (7, [(4, 25), (4, (-1)), (4, (-1))], []), jgh, jgh, jgh, (101, [], [0, 0, 0, 0, 0, 0]), (114, [], [19]), (101, [], [0, 0, 0, 0, 0, 0]), (4, [(4, 26), (1, 1)], []), (114, [], [19, (-1)]), (114, [], [19]), (7, [(4, 29), (4, (-1)), (4, (-1))], []), (117, [], [30, 21, 22, 23]), jzA_1500]
def jzA_1502 : JC := (13, [(4, 1), (4, 2), (4, 3), (4, 4), (4, 5), (4, 6), (4, 7), (4, 8), (4, 9), (4, 10), (0, 1), (4, 32), (0, 0)], [])
def jpA_1503 : List JC := [jzA_1502, (8, [(4, 12), (4, 13)], []), jgh, jgh, jgh, jgh, jgh, jgh, (101, [], [0, 0, 0, 0, 0, 0]), jgh, jzA_102, jzA_640, jgh, (101, [], [0, 0, 0, 0, 0, 0]), jzA_641, (117, [], [20, 21, 22, 23]), jgh, jgh, jgh, (4, [(4, 24), (1, 1)], []), (7, [(4, 25), (4, (-1)), (4, (-1))], []), jgh, jgh, jgh, (101, [], [0, 0, 0, 0, 0, 0]), (114, [], [19]), (101, [], [0, 0, 0, 0, 0, 0]), (4, [(4, 26), (1, 1)], []), (114, [], [19, (-1)]), (114, [], [19]), (7, [(4, 29), (4, (-1)), (4, (-1))], []), (117, [], [30, 21, 22, 23]), jzA_1500]
theorem jI_128_155 : jmI (jm 128) 155 = (.iload 6, 2) := by rfl
theorem jI_128_157 : jmI (jm 128) 157 = (.ifCond .lt 7, 3) := by rfl
theorem jI_128_160 : jmI (jm 128) 160 = (.iconst 1, 1) := by rfl
theorem jI_128_161 : jmI (jm 128) 161 = (.goto 4, 3) := by rfl
def jpA_1508 : List JC := [jzA_5, (8, [(4, 12), (4, 13)], []), jgh, jgh, jgh, jgh, jgh, jgh, (101, [], [0, 0, 0, 0, 0, 0]), jgh, jzA_79, jzA_640, jgh, (101, [], [0, 0, 0, 0, 0, 0]), jzA_641, (117, [], [20, 21, 22, 23]), jgh, jgh, jgh, (4, [(4, 24), (1, 1)], []), (7, [(4, 25), (4, (-1)), (4, (-1))], []), jgh, jgh, jgh, (101, [], [0, 0, 0, 0, 0, 0]), (114, [], [19])]
theorem jA_128_335 {xs : List Int} {d : Nat} {x2 : Int} (h_x2 : 0 ≤ x2 ∧ x2 ≤ 7) : jT xs (d + 6) 128 26 0 [(0, (4, 0)), (1, (0, 0)), (2, (0, x2)), (3, (0, 1))] [] jpA_1508 7 23 (fun k v hsN => k = 0 ∧ v = (0, 1) ∧ hsN = jpA_1503) := by
  refine jT_xaload_n (v := (4, 0)) (pcN := 1) jI_128_0 rfl rfl rfl ?_
  refine jT_xiload_n (v := (0, 0)) (pcN := 2) jI_128_1 rfl rfl rfl ?_
  refine jT_xiconst (k := 4) (pcN := 3) jI_128_2 rfl ?_
  refine jT_fR [0] 26 (y := 115) (pcN := 6) (dC := 0) (bc1 := 0) (bc2 := 0) (c1 := 7) (c2 := 23) (as := [(4, 0), (0, 0), (0, 4)]) (asC := [(4, 0), (0, 0), (0, 4)]) (LN := [(0, (4, 0)), (1, (0, 0)), (2, (0, x2)), (3, (0, 1))]) (stN := []) (hsC := [jgh]) (v := (9, 0)) (st2 := []) (jA_115_321 (d := 0)) (by rfl) (by rfl) (by decide +kernel) (by rfl) (by rfl) (by omega) (by omega) (by omega) (by omega) rfl ?_
  refine jT_xaload_n (v := (4, 0)) (pcN := 7) jI_128_6 rfl rfl rfl ?_
  refine jT_xiload_n (v := (0, x2)) (pcN := 8) jI_128_7 rfl rfl rfl ?_
  refine jT_xbipush (k := 8) (pcN := 10) jI_128_8 (by decide) rfl ?_
  refine jT_fR [0] 26 (y := 115) (pcN := 13) (dC := 0) (bc1 := 0) (bc2 := 0) (c1 := 7) (c2 := 23) (as := [(4, 0), (0, x2), (0, 8)]) (asC := [(4, 0), (0, x2), (0, 8)]) (LN := [(0, (4, 0)), (1, (0, 0)), (2, (0, x2)), (3, (0, 1))]) (stN := []) (hsC := [jgh]) (v := (9, 0)) (st2 := []) (jA_115_16 (d := 0) (by omega)) (by rfl) (by rfl) (by decide +kernel) (by rfl) (by rfl) (by omega) (by omega) (by omega) (by omega) rfl ?_
  refine jT_xaload_n (v := (4, 0)) (pcN := 14) jI_128_13 rfl rfl rfl ?_
  refine jT_xgetf (a := 0) (t := 1) (ci := 13) (fi := 11) (c := jzA_5) (v := (4, 11)) (pcN := 17) jI_128_14 rfl rfl rfl rfl rfl rfl rfl ?_
  refine jT_xiload_n (v := (0, 0)) (pcN := 18) jI_128_17 rfl rfl rfl ?_
  refine jT_fR [11, 14, 15, 16, 17, 18, 20, 21, 22, 23] 26 (y := 56) (pcN := 21) (dC := 0) (bc1 := 0) (bc2 := 0) (c1 := 7) (c2 := 23) (as := [(4, 11), (0, 0)]) (asC := [(4, 0), (0, 0)]) (LN := [(0, (4, 0)), (1, (0, 0)), (2, (0, x2)), (3, (0, 1))]) (stN := []) (hsC := jpA_1446) (v := (4, 6)) (st2 := [(4, 20)]) (jA_56_322 (d := 0)) (by rfl) (by rfl) (by decide +kernel) (by rfl) (by rfl) (by omega) (by omega) (by omega) (by omega) rfl ?_
  refine jT_xastore (v := (4, 20)) (LN := [(4, (4, 20)), (0, (4, 0)), (1, (0, 0)), (2, (0, x2)), (3, (0, 1))]) (pcN := 23) jI_128_21 rfl rfl rfl rfl ?_
  refine jT_xaload_n (v := (4, 0)) (pcN := 24) jI_128_23 rfl rfl rfl ?_
  refine jT_xaload_n (v := (4, 0)) (pcN := 25) jI_128_24 rfl rfl rfl ?_
  refine jT_xgetf (a := 0) (t := 1) (ci := 13) (fi := 11) (c := jzA_5) (v := (4, 11)) (pcN := 28) jI_128_25 rfl rfl rfl rfl rfl rfl rfl ?_
  refine jT_xiload_n (v := (0, x2)) (pcN := 29) jI_128_28 rfl rfl rfl ?_
  refine jT_fR [11, 14, 15, 16, 17, 18, 19] 26 (y := 57) (pcN := 32) (dC := 0) (bc1 := 0) (bc2 := 0) (c1 := 7) (c2 := 23) (as := [(4, 11), (0, x2)]) (asC := [(4, 0), (0, x2)]) (LN := [(4, (4, 20)), (0, (4, 0)), (1, (0, 0)), (2, (0, x2)), (3, (0, 1))]) (stN := [(4, 0)]) (hsC := jpA_47) (v := (4, 6)) (st2 := [(4, 19), (4, 0)]) (jA_57_24 (d := 0) (by omega)) (by rfl) (by rfl) (by decide +kernel) (by rfl) (by rfl) (by omega) (by omega) (by omega) (by omega) rfl ?_
  refine jT_xiconst (k := 1) (pcN := 33) jI_128_32 rfl ?_
  refine jT_fA [0, 19, 1, 2, 3, 4, 5, 6, 7, 8, 9, 10, 11, 24, 12, 13] 26 (y := 127) (pcN := 36) (dC := 3) (bc1 := 2) (bc2 := 8) (c1 := 5) (c2 := 15) (as := [(4, 0), (4, 19), (0, 1)]) (asC := [(4, 0), (4, 1), (0, 1)]) (LN := [(4, (4, 20)), (0, (4, 0)), (1, (0, 0)), (2, (0, x2)), (3, (0, 1))]) (stN := []) (hsC := jpA_1447) (ex := [(101, [], [0, 0, 0, 0, 0, 0]), (4, [(4, 16), (1, 1)], [])]) (v := (4, 17)) (st2 := [(4, 27)]) (hs2 := jpA_1471) (jA_127_323 (d := 0)) (by rfl) (by rfl) (by decide +kernel) (by rfl) (by rfl) (by omega) (by omega) (by omega) (by omega) rfl (by decide +kernel) ?_
  refine jT_xastore (v := (4, 27)) (LN := [(5, (4, 27)), (4, (4, 20)), (0, (4, 0)), (1, (0, 0)), (2, (0, x2)), (3, (0, 1))]) (pcN := 38) jI_128_36 rfl rfl rfl rfl ?_
  refine jT_xaload (v := (4, 20)) (pcN := 40) jI_128_38 rfl rfl rfl ?_
  refine jT_xaload (v := (4, 27)) (pcN := 42) jI_128_40 rfl rfl rfl ?_
  refine jT_xaload_n (v := (4, 0)) (pcN := 43) jI_128_42 rfl rfl rfl ?_
  refine jT_xgetf (a := 0) (t := 1) (ci := 13) (fi := 0) (c := jzA_5) (v := (4, 1)) (pcN := 46) jI_128_43 rfl rfl rfl rfl rfl rfl rfl ?_
  refine jT_fR [20, 27, 1, 25, 26, 12, 13, 19, 24] 28 (y := 33) (pcN := 49) (dC := 4) (bc1 := 0) (bc2 := 0) (c1 := 5) (c2 := 15) (as := [(4, 20), (4, 27), (4, 1)]) (asC := [(4, 0), (4, 1), (4, 2)]) (LN := [(5, (4, 27)), (4, (4, 20)), (0, (4, 0)), (1, (0, 0)), (2, (0, x2)), (3, (0, 1))]) (stN := []) (hsC := jpA_1451) (v := (0, 0)) (st2 := [(0, 0)]) (jA_33_328 (d := 0)) (by rfl) (by rfl) (by decide +kernel) (by rfl) (by rfl) (by omega) (by omega) (by omega) (by omega) rfl ?_
  refine jT_xistore (v := (0, 0)) (LN := [(6, (0, 0)), (5, (4, 27)), (4, (4, 20)), (0, (4, 0)), (1, (0, 0)), (2, (0, x2)), (3, (0, 1))]) (pcN := 51) jI_128_49 rfl rfl rfl rfl ?_
  refine jT_xiload_n (v := (0, 1)) (pcN := 52) jI_128_51 rfl rfl rfl ?_
  refine jT_xifT (pcN := 79) jI_128_52 rfl (by decide +kernel) rfl ?_
  refine jT_xiload_n (v := (0, 1)) (pcN := 80) jI_128_79 rfl rfl rfl ?_
  refine jT_xifF (t := 108) (pcN := 83) jI_128_80 rfl (by decide +kernel) rfl rfl ?_
  refine jT_xiload (v := (0, 0)) (pcN := 85) jI_128_83 rfl rfl rfl ?_
  refine jT_xifT (pcN := 108) jI_128_85 rfl (by decide +kernel) rfl ?_
  refine jT_xiload_n (v := (0, 1)) (pcN := 109) jI_128_108 rfl rfl rfl ?_
  refine jT_xifF (t := 118) (pcN := 112) jI_128_109 rfl (by decide +kernel) rfl rfl ?_
  refine jT_xaload_n (v := (4, 0)) (pcN := 113) jI_128_112 rfl rfl rfl ?_
  refine jT_xaload (v := (4, 27)) (pcN := 115) jI_128_113 rfl rfl rfl ?_
  refine jT_fR [0, 27, 26] 28 (y := 117) (pcN := 118) (dC := 2) (bc1 := 0) (bc2 := 0) (c1 := 5) (c2 := 15) (as := [(4, 0), (4, 27)]) (asC := [(4, 0), (4, 1)]) (LN := [(6, (0, 0)), (5, (4, 27)), (4, (4, 20)), (0, (4, 0)), (1, (0, 0)), (2, (0, x2)), (3, (0, 1))]) (stN := []) (hsC := [jgh, (4, [(4, 2), (1, 1)], []), (101, [], [0, 0, 0, 0, 0, 0])]) (v := (9, 0)) (st2 := []) (jA_117_31 (d := 0)) (by rfl) (by rfl) (by decide +kernel) (by rfl) (by rfl) (by omega) (by omega) (by omega) (by omega) rfl ?_
  refine jT_xaload_n (v := (4, 0)) (pcN := 119) jI_128_118 rfl rfl rfl ?_
  refine jT_xaload_n (v := (4, 0)) (pcN := 120) jI_128_119 rfl rfl rfl ?_
  refine jT_xgetf (a := 0) (t := 1) (ci := 13) (fi := 11) (c := jzA_5) (v := (4, 11)) (pcN := 123) jI_128_120 rfl rfl rfl rfl rfl rfl rfl ?_
  refine jT_xiload_n (v := (0, 0)) (pcN := 124) jI_128_123 rfl rfl rfl ?_
  refine jT_xiload_n (v := (0, 1)) (pcN := 125) jI_128_124 rfl rfl rfl ?_
  refine jT_xifF (t := 142) (pcN := 128) jI_128_125 rfl (by decide +kernel) rfl rfl ?_
  refine jT_xaload (v := (4, 20)) (pcN := 130) jI_128_128 rfl rfl rfl ?_
  refine jT_xaload (v := (4, 27)) (pcN := 132) jI_128_130 rfl rfl rfl ?_
  refine jT_xaload_n (v := (4, 0)) (pcN := 133) jI_128_132 rfl rfl rfl ?_
  refine jT_xgetf (a := 0) (t := 1) (ci := 13) (fi := 0) (c := jzA_5) (v := (4, 1)) (pcN := 136) jI_128_133 rfl rfl rfl rfl rfl rfl rfl ?_
  refine jT_fA [20, 27, 1, 25, 26, 12, 13, 19, 24] 28 (y := 34) (pcN := 139) (dC := 5) (bc1 := 3) (bc2 := 6) (c1 := 2) (c2 := 9) (as := [(4, 20), (4, 27), (4, 1)]) (asC := [(4, 0), (4, 1), (4, 2)]) (LN := [(6, (0, 0)), (5, (4, 27)), (4, (4, 20)), (0, (4, 0)), (1, (0, 0)), (2, (0, x2)), (3, (0, 1))]) (stN := [(0, 0), (4, 11), (4, 0)]) (hsC := jpA_1451) (ex := [(114, [], [7, (-1)]), (114, [], [7]), (7, [(4, 10), (4, (-1)), (4, (-1))], [])]) (v := (4, 11)) (st2 := [(4, 30), (0, 0), (4, 11), (4, 0)]) (hs2 := jpA_1498) (jA_34_333 (d := 0)) (by rfl) (by rfl) (by decide +kernel) (by rfl) (by rfl) (by omega) (by omega) (by omega) (by omega) rfl (by decide +kernel) ?_
  refine jT_xgoto (pcN := 149) jI_128_139 rfl ?_
  refine jT_fA [11, 30, 14, 15, 16, 17, 18, 29, 20, 21, 22, 23] 31 (y := 60) (pcN := 152) (dC := 1) (bc1 := 2) (bc2 := 9) (c1 := 0) (c2 := 0) (as := [(4, 11), (0, 0), (4, 30)]) (asC := [(4, 0), (0, 0), (4, 1)]) (LN := [(6, (0, 0)), (5, (4, 27)), (4, (4, 20)), (0, (4, 0)), (1, (0, 0)), (2, (0, x2)), (3, (0, 1))]) (stN := [(4, 0)]) (hsC := jpA_1461) (ex := [(117, [], [1, 9, 10, 11]), jzA_1459]) (v := (4, 13)) (st2 := [(4, 32), (4, 0)]) (hs2 := jpA_1501) (jA_60_334 (d := 0)) (by rfl) (by rfl) (by decide +kernel) (by rfl) (by rfl) (by omega) (by omega) (by omega) (by omega) rfl (by decide +kernel) ?_
  refine jT_fB [0, 32, 1, 2, 3, 4, 5, 6, 7, 8, 9, 10, 11, 14, 15, 16, 17, 18] 33 (y := 100) (pcN := 155) (dC := 0) (bc1 := 0) (bc2 := 0) (c1 := 0) (c2 := 0) (as := [(4, 0), (4, 32)]) (asC := [(4, 0), (4, 1)]) (LN := [(6, (0, 0)), (5, (4, 27)), (4, (4, 20)), (0, (4, 0)), (1, (0, 0)), (2, (0, x2)), (3, (0, 1))]) (stN := []) (hsC := jpA_80) (hsD := jpA_78) (v := (9, 0)) (st2 := []) (hs2 := jpA_1503) (jA_100_34 (d := 0)) (by rfl) (by rfl) (by decide +kernel) (by rfl) (by rfl) (by omega) (by omega) (by omega) (by omega) rfl (by decide +kernel) ?_
  refine jT_xiload (v := (0, 0)) (pcN := 157) jI_128_155 rfl rfl rfl ?_
  refine jT_xifF (t := 164) (pcN := 160) jI_128_157 rfl (by decide +kernel) rfl rfl ?_
  refine jT_xiconst (k := 1) (pcN := 161) jI_128_160 rfl ?_
  refine jT_xgoto (pcN := 165) jI_128_161 rfl ?_
  exact jT_ret rfl (by decide) (by show 26 ≤ 33; decide) (by omega) (by omega) ⟨rfl, rfl, rfl⟩
def jzA_1509 : JC := (13, [(4, 2), (4, 3), (4, 4), (4, 5), (4, 6), (4, 7), (4, 8), (4, 9), (4, 10), (4, 11), (0, 1), (4, 33), (0, 0)], [])
def jzA_1510 : JC := (9, [(4, 15), (4, 32), (4, 17), (4, 18), (4, 19)], [])
def jpA_1511 : List JC := [jzA_1509, (101, [], [0]), (8, [(4, 13), (4, 14)], []), jgh, jgh, jgh, jgh, jgh, jgh, (101, [], [0, 0, 0, 0, 0, 0]), jgh, jzA_76, jzA_659, jgh, (101, [], [0, 0, 0, 0, 0, 0]), jzA_660, (117, [], [21, 22, 23, 24]), jgh, jgh, jgh, (4, [(4, 25), (1, 1)], []), (7, [(4, 26), (4, (-1)), (4, (-1))], []), jgh, jgh, jgh, (101, [], [0, 0, 0, 0, 0, 0]), (114, [], [20]), (101, [], [0, 0, 0, 0, 0, 0]), (4, [(4, 27), (1, 1)], []), (114, [], [20, (-1)]), (114, [], [20]), (7, [(4, 30), (4, (-1)), (4, (-1))], []), (117, [], [31, 22, 23, 24]), jzA_1510]
theorem jI_336_10 : jmI (jm 336) 10 = (.ifCond .eq 7, 3) := by rfl
theorem jI_336_13 : jmI (jm 336) 13 = (.lconst 1, 1) := by rfl
theorem jI_336_14 : jmI (jm 336) 14 = (.goto 4, 3) := by rfl
def jpA_1515 : List JC := [jzA_1509, (101, [], [1]), (8, [(4, 13), (4, 14)], []), jgh, jgh, jgh, jgh, jgh, jgh, (101, [], [0, 0, 0, 0, 0, 0]), jgh, jzA_76, jzA_659, jgh, (101, [], [0, 0, 0, 0, 0, 0]), jzA_660, (117, [], [21, 22, 23, 24]), jgh, jgh, jgh, (4, [(4, 25), (1, 1)], []), (7, [(4, 26), (4, (-1)), (4, (-1))], []), jgh, jgh, jgh, (101, [], [0, 0, 0, 0, 0, 0]), (114, [], [20]), (101, [], [0, 0, 0, 0, 0, 0]), (4, [(4, 27), (1, 1)], []), (114, [], [20, (-1)]), (114, [], [20]), (7, [(4, 30), (4, (-1)), (4, (-1))], []), (117, [], [31, 22, 23, 24]), jzA_1510]
theorem jI_336_19 : jmI (jm 336) 19 = (.goto 15, 3) := by rfl
theorem jI_336_34 : jmI (jm 336) 34 = (.iconst 0, 1) := by rfl
def jpA_1518 : List JC := [jzA_14, (101, [], [0]), (8, [(4, 13), (4, 14)], []), jgh, jgh, jgh, jgh, jgh, jgh, (101, [], [0, 0, 0, 0, 0, 0]), jgh, jzA_79, jzA_659, jgh, (101, [], [0, 0, 0, 0, 0, 0]), jzA_660, (117, [], [21, 22, 23, 24]), jgh, jgh, jgh, (4, [(4, 25), (1, 1)], []), (7, [(4, 26), (4, (-1)), (4, (-1))], []), jgh, jgh, jgh, (101, [], [0, 0, 0, 0, 0, 0]), (114, [], [20])]
theorem jA_336_336 {xs : List Int} {d : Nat} {x2 : Int} (h_x2 : 0 ≤ x2 ∧ x2 ≤ 7) : jT xs (d + 7) 336 27 0 [(0, (4, 0)), (1, (0, 0)), (2, (0, x2)), (3, (0, 1)), (4, (4, 1))] [] jpA_1518 7 23 (fun k v hsN => k = 0 ∧ v = (0, 0) ∧ hsN = jpA_1515) := by
  refine jT_xaload (v := (4, 1)) (pcN := 2) jI_336_0 rfl rfl rfl ?_
  refine jT_xiconst (k := 0) (pcN := 3) jI_336_2 rfl ?_
  refine jT_xaload_n (v := (4, 0)) (pcN := 4) jI_336_3 rfl rfl rfl ?_
  refine jT_xiload_n (v := (0, 0)) (pcN := 5) jI_336_4 rfl rfl rfl ?_
  refine jT_xiload_n (v := (0, x2)) (pcN := 6) jI_336_5 rfl rfl rfl ?_
  refine jT_xiload_n (v := (0, 1)) (pcN := 7) jI_336_6 rfl rfl rfl ?_
  refine jT_fB [0, 2, 3, 4, 5, 6, 7, 8, 9, 10, 11, 12, 13, 14, 15, 16, 17, 18, 19, 20, 21, 22, 23, 24, 25, 26] 27 (y := 128) (pcN := 10) (dC := 6) (bc1 := 7) (bc2 := 23) (c1 := 0) (c2 := 0) (as := [(4, 0), (0, 0), (0, x2), (0, 1)]) (asC := [(4, 0), (0, 0), (0, x2), (0, 1)]) (LN := [(0, (4, 0)), (1, (0, 0)), (2, (0, x2)), (3, (0, 1)), (4, (4, 1))]) (stN := [(0, 0), (4, 1)]) (hsC := jpA_1508) (hsD := jpA_1503) (v := (0, 1)) (st2 := [(0, 1), (0, 0), (4, 1)]) (hs2 := jpA_1511) (jA_128_335 (d := 0) (by omega)) (by rfl) (by rfl) (by decide +kernel) (by rfl) (by rfl) (by omega) (by omega) (by omega) (by omega) rfl (by decide +kernel) ?_
  refine jT_xifF (t := 17) (pcN := 13) jI_336_10 rfl (by decide +kernel) rfl rfl ?_
  refine jT_xlconst (z := 1) (pcN := 14) jI_336_13 rfl rfl ?_
  refine jT_xgoto (pcN := 18) jI_336_14 rfl ?_
  refine jT_adv 1 (pcN := 19) (LN := [(0, (4, 0)), (1, (0, 0)), (2, (0, x2)), (3, (0, 1)), (4, (4, 1))]) (stN := []) (hsN := jpA_1515) (c1 := 0) (s1 := 0) (c2 := 0) (s2 := 0) (by exact rfl) ?_ (by omega) (by omega)
  refine jT_xgoto (pcN := 34) jI_336_19 rfl ?_
  refine jT_xiconst (k := 0) (pcN := 35) jI_336_34 rfl ?_
  exact jT_ret rfl (by decide) (by show 27 ≤ 34; decide) (by omega) (by omega) ⟨rfl, rfl, rfl⟩
theorem jA_189_337 {xs : List Int} {d : Nat} : jT xs d 189 0 0 [(0, (1, 0)), (2, (1, 0)), (4, (1, 3))] [] [] 0 0 (fun k v hsN => k = 0 ∧ v = (0, 1) ∧ hsN = [] ++ []) := by
  refine jT_advK 10 (pcN := 18) (LN := [(0, (1, 0)), (2, (1, 0)), (4, (1, 3))]) (stN := [(0, 1)]) (hsN := []) (c1 := 0) (s1 := 0) (c2 := 0) (s2 := 0) (by decide +kernel) ?_ (by omega) (by omega)
  exact jT_ret rfl (by decide) (by show 0 ≤ 0; decide) (by omega) (by omega) ⟨rfl, rfl, rfl⟩
theorem jA_238_338 {xs : List Int} {d : Nat} : jT xs (d + 1) 238 0 0 [(0, (0, 0))] [] [] 0 0 (fun k v hsN => k = 0 ∧ v = (0, 1) ∧ hsN = [] ++ []) := by
  refine jT_advK 4 (pcN := 6) (LN := [(0, (0, 0))]) (stN := [(1, 3), (1, 0), (1, 0)]) (hsN := []) (c1 := 0) (s1 := 0) (c2 := 0) (s2 := 0) (by decide +kernel) ?_ (by omega) (by omega)
  refine jT_fR [] 0 (y := 189) (pcN := 9) (dC := 0) (bc1 := 0) (bc2 := 0) (c1 := 0) (c2 := 0) (as := [(1, 0), (1, 0), (1, 3)]) (asC := [(1, 0), (1, 0), (1, 3)]) (LN := [(0, (0, 0))]) (stN := []) (hsC := []) (v := (0, 1)) (st2 := [(0, 1)]) (jA_189_337 (d := 0)) (by rfl) (by rfl) (by decide +kernel) (by rfl) (by rfl) (by omega) (by omega) (by omega) (by omega) rfl ?_
  exact jT_ret rfl (by decide) (by show 0 ≤ 0; decide) (by omega) (by omega) ⟨rfl, rfl, rfl⟩
def jpA_1519 : List JC := [jzA_21, (100, [], jS0), jgh, jgh, jgh, jgh, jgh, jgh, jgh, jgh, jgh, jgh, jgh, jgh, jgh, jgh]
theorem jI_245_12 : jmI (jm 245) 12 = (.iaload, 1) := by rfl
theorem jA_245_339 {xs : List Int} {d : Nat} : jT xs d 245 16 0 [(0, (4, 0)), (1, (0, 0))] [] jpA_1519 0 0 (fun k v hsN => k = 0 ∧ v = (0, 1) ∧ hsN = jpA_1519 ++ []) := by
  refine jT_advK 7 (pcN := 12) (LN := [(0, (4, 0)), (1, (0, 0))]) (stN := [(0, 56), (4, 1)]) (hsN := jpA_1519) (c1 := 0) (s1 := 0) (c2 := 0) (s2 := 0) (by decide +kernel) ?_ (by omega) (by omega)
  refine jT_iald (x := 1) (a := 1) (j := 56) (fs := []) (X := jS0) (by rfl) (by rfl) (by rfl) (by rfl) (by decide +kernel) ?_
  refine jT_eq (LN := [(0, (4, 0)), (1, (0, 0))]) (stN := [(0, 1)]) (hsN := jpA_1519) rfl rfl rfl ?_
  exact jT_ret rfl (by decide) (by show 16 ≤ 16; decide) (by omega) (by omega) ⟨rfl, rfl, rfl⟩
theorem jA_242_340 {xs : List Int} {d : Nat} : jT xs d 242 0 0 [(0, (0, 0)), (1, (0, 0))] [] [] 0 0 (fun k v hsN => k = 0 ∧ v = (0, 57) ∧ hsN = [] ++ []) := by
  refine jT_advK 11 (pcN := 15) (LN := [(0, (0, 0)), (1, (0, 0))]) (stN := [(0, 57)]) (hsN := []) (c1 := 0) (s1 := 0) (c2 := 0) (s2 := 0) (by decide +kernel) ?_ (by omega) (by omega)
  exact jT_ret rfl (by decide) (by show 0 ≤ 0; decide) (by omega) (by omega) ⟨rfl, rfl, rfl⟩
theorem jI_236_9 : jmI (jm 236) 9 = (.iaload, 1) := by rfl
theorem jI_236_47 : jmI (jm 236) 47 = (.iaload, 1) := by rfl
theorem jA_236_341 {xs : List Int} {d : Nat} : jT xs d 236 16 0 [(0, (4, 0)), (1, (4, 1)), (2, (0, 57))] [] jpA_130 0 0 (fun k v hsN => k = 0 ∧ v = (0, 1) ∧ hsN = jpA_130 ++ []) := by
  refine jT_advK 6 (pcN := 9) (LN := [(0, (4, 0)), (1, (4, 1)), (2, (0, 57))]) (stN := [(0, 63), (4, 1), (1, 1)]) (hsN := jpA_130) (c1 := 0) (s1 := 0) (c2 := 0) (s2 := 0) (by decide +kernel) ?_ (by omega) (by omega)
  refine jT_iald (x := 1) (a := 1) (j := 63) (fs := []) (X := jS0) (by rfl) (by rfl) (by rfl) (by rfl) (by decide +kernel) ?_
  refine jT_eq (LN := [(0, (4, 0)), (1, (4, 1)), (2, (0, 57))]) (stN := [(0, 1), (1, 1)]) (hsN := jpA_130) rfl rfl rfl ?_
  refine jT_advK 21 (pcN := 47) (LN := [(4, (0, 0)), (3, (0, 1)), (0, (4, 0)), (1, (4, 1)), (2, (0, 57))]) (stN := [(0, 57), (4, 1), (1, 0)]) (hsN := jpA_130) (c1 := 0) (s1 := 0) (c2 := 0) (s2 := 0) (by decide +kernel) ?_ (by omega) (by omega)
  refine jT_iald (x := 0) (a := 1) (j := 57) (fs := []) (X := jS0) (by rfl) (by rfl) (by rfl) (by rfl) (by decide +kernel) ?_
  refine jT_eq (LN := [(4, (0, 0)), (3, (0, 1)), (0, (4, 0)), (1, (4, 1)), (2, (0, 57))]) (stN := [(0, 0), (1, 0)]) (hsN := jpA_130) rfl rfl rfl ?_
  refine jT_advK 21 (pcN := 47) (LN := [(4, (0, 1)), (3, (0, 1)), (0, (4, 0)), (1, (4, 1)), (2, (0, 57))]) (stN := [(0, 58), (4, 1), (1, 0)]) (hsN := jpA_130) (c1 := 0) (s1 := 0) (c2 := 0) (s2 := 0) (by decide +kernel) ?_ (by omega) (by omega)
  refine jT_iald (x := 0) (a := 1) (j := 58) (fs := []) (X := jS0) (by rfl) (by rfl) (by rfl) (by rfl) (by decide +kernel) ?_
  refine jT_eq (LN := [(4, (0, 1)), (3, (0, 1)), (0, (4, 0)), (1, (4, 1)), (2, (0, 57))]) (stN := [(0, 0), (1, 0)]) (hsN := jpA_130) rfl rfl rfl ?_
  refine jT_advK 21 (pcN := 47) (LN := [(4, (0, 2)), (3, (0, 1)), (0, (4, 0)), (1, (4, 1)), (2, (0, 57))]) (stN := [(0, 59), (4, 1), (1, 0)]) (hsN := jpA_130) (c1 := 0) (s1 := 0) (c2 := 0) (s2 := 0) (by decide +kernel) ?_ (by omega) (by omega)
  refine jT_iald (x := 0) (a := 1) (j := 59) (fs := []) (X := jS0) (by rfl) (by rfl) (by rfl) (by rfl) (by decide +kernel) ?_
  refine jT_eq (LN := [(4, (0, 2)), (3, (0, 1)), (0, (4, 0)), (1, (4, 1)), (2, (0, 57))]) (stN := [(0, 0), (1, 0)]) (hsN := jpA_130) rfl rfl rfl ?_
  refine jT_advK 21 (pcN := 47) (LN := [(4, (0, 3)), (3, (0, 1)), (0, (4, 0)), (1, (4, 1)), (2, (0, 57))]) (stN := [(0, 60), (4, 1), (1, 0)]) (hsN := jpA_130) (c1 := 0) (s1 := 0) (c2 := 0) (s2 := 0) (by decide +kernel) ?_ (by omega) (by omega)
  refine jT_iald (x := 0) (a := 1) (j := 60) (fs := []) (X := jS0) (by rfl) (by rfl) (by rfl) (by rfl) (by decide +kernel) ?_
  refine jT_eq (LN := [(4, (0, 3)), (3, (0, 1)), (0, (4, 0)), (1, (4, 1)), (2, (0, 57))]) (stN := [(0, 0), (1, 0)]) (hsN := jpA_130) rfl rfl rfl ?_
  refine jT_advK 21 (pcN := 47) (LN := [(4, (0, 4)), (3, (0, 1)), (0, (4, 0)), (1, (4, 1)), (2, (0, 57))]) (stN := [(0, 61), (4, 1), (1, 0)]) (hsN := jpA_130) (c1 := 0) (s1 := 0) (c2 := 0) (s2 := 0) (by decide +kernel) ?_ (by omega) (by omega)
  refine jT_iald (x := 0) (a := 1) (j := 61) (fs := []) (X := jS0) (by rfl) (by rfl) (by rfl) (by rfl) (by decide +kernel) ?_
  refine jT_eq (LN := [(4, (0, 4)), (3, (0, 1)), (0, (4, 0)), (1, (4, 1)), (2, (0, 57))]) (stN := [(0, 0), (1, 0)]) (hsN := jpA_130) rfl rfl rfl ?_
  refine jT_advK 21 (pcN := 47) (LN := [(4, (0, 5)), (3, (0, 1)), (0, (4, 0)), (1, (4, 1)), (2, (0, 57))]) (stN := [(0, 62), (4, 1), (1, 0)]) (hsN := jpA_130) (c1 := 0) (s1 := 0) (c2 := 0) (s2 := 0) (by decide +kernel) ?_ (by omega) (by omega)
  refine jT_iald (x := 0) (a := 1) (j := 62) (fs := []) (X := jS0) (by rfl) (by rfl) (by rfl) (by rfl) (by decide +kernel) ?_
  refine jT_eq (LN := [(4, (0, 5)), (3, (0, 1)), (0, (4, 0)), (1, (4, 1)), (2, (0, 57))]) (stN := [(0, 0), (1, 0)]) (hsN := jpA_130) rfl rfl rfl ?_
  refine jT_advK 12 (pcN := 66) (LN := [(4, (0, 6)), (3, (0, 1)), (0, (4, 0)), (1, (4, 1)), (2, (0, 57))]) (stN := [(0, 1)]) (hsN := jpA_130) (c1 := 0) (s1 := 0) (c2 := 0) (s2 := 0) (by decide +kernel) ?_ (by omega) (by omega)
  exact jT_ret rfl (by decide) (by show 16 ≤ 16; decide) (by omega) (by omega) ⟨rfl, rfl, rfl⟩
theorem jA_244_342 {xs : List Int} {d : Nat} : jT xs (d + 1) 244 16 0 [(0, (4, 0)), (1, (0, 0))] [] jpA_130 0 0 (fun k v hsN => k = 0 ∧ v = (0, 1) ∧ hsN = jpA_130 ++ []) := by
  refine jT_advK 5 (pcN := 5) (LN := [(2, (0, 0)), (0, (4, 0)), (1, (0, 0))]) (stN := [(0, 0), (4, 0), (0, 0)]) (hsN := jpA_130) (c1 := 0) (s1 := 0) (c2 := 0) (s2 := 0) (by decide +kernel) ?_ (by omega) (by omega)
  refine jT_fR [0, 1, 2, 3, 4, 5, 6, 7, 8, 9, 10, 11, 12, 13, 14, 15] 16 (y := 245) (pcN := 8) (dC := 0) (bc1 := 0) (bc2 := 0) (c1 := 0) (c2 := 0) (as := [(4, 0), (0, 0)]) (asC := [(4, 0), (0, 0)]) (LN := [(2, (0, 0)), (0, (4, 0)), (1, (0, 0))]) (stN := [(0, 0)]) (hsC := jpA_1519) (v := (0, 1)) (st2 := [(0, 1), (0, 0)]) (jA_245_339 (d := 0)) (by rfl) (by rfl) (by decide +kernel) (by rfl) (by rfl) (by omega) (by omega) (by omega) (by omega) rfl ?_
  refine jT_advK 6 (pcN := 18) (LN := [(2, (0, 0)), (0, (4, 0)), (1, (0, 0))]) (stN := [(0, 0), (0, 0), (4, 1), (4, 0)]) (hsN := jpA_130) (c1 := 0) (s1 := 0) (c2 := 0) (s2 := 0) (by decide +kernel) ?_ (by omega) (by omega)
  refine jT_fR [] 16 (y := 242) (pcN := 21) (dC := 0) (bc1 := 0) (bc2 := 0) (c1 := 0) (c2 := 0) (as := [(0, 0), (0, 0)]) (asC := [(0, 0), (0, 0)]) (LN := [(2, (0, 0)), (0, (4, 0)), (1, (0, 0))]) (stN := [(4, 1), (4, 0)]) (hsC := []) (v := (0, 57)) (st2 := [(0, 57), (4, 1), (4, 0)]) (jA_242_340 (d := 0)) (by rfl) (by rfl) (by decide +kernel) (by rfl) (by rfl) (by omega) (by omega) (by omega) (by omega) rfl ?_
  refine jT_fR [0, 1, 2, 3, 4, 5, 6, 7, 8, 9, 10, 11, 12, 13, 14, 15] 16 (y := 236) (pcN := 24) (dC := 0) (bc1 := 0) (bc2 := 0) (c1 := 0) (c2 := 0) (as := [(4, 0), (4, 1), (0, 57)]) (asC := [(4, 0), (4, 1), (0, 57)]) (LN := [(2, (0, 0)), (0, (4, 0)), (1, (0, 0))]) (stN := []) (hsC := jpA_130) (v := (0, 1)) (st2 := [(0, 1)]) (jA_236_341 (d := 0)) (by rfl) (by rfl) (by decide +kernel) (by rfl) (by rfl) (by omega) (by omega) (by omega) (by omega) rfl ?_
  refine jT_advK 2 (pcN := 28) (LN := [(2, (0, 0)), (0, (4, 0)), (1, (0, 0))]) (stN := [(0, 1)]) (hsN := jpA_130) (c1 := 0) (s1 := 0) (c2 := 0) (s2 := 0) (by decide +kernel) ?_ (by omega) (by omega)
  exact jT_ret rfl (by decide) (by show 16 ≤ 16; decide) (by omega) (by omega) ⟨rfl, rfl, rfl⟩
def jpA_1523 : List JC := [jzA_670, (100, [], [0, 0, 0, 0, 0, 0, 1]), jgh, jgh, jgh, jgh, jgh, jgh, (101, [], [0, 0, 0, 0, 0, 0]), jgh, jgh, jgh, jgh, jgh, jgh, jgh, jgh]
def jpA_1524 : List JC := [jzA_670, (100, [], [0, 0, 0, 0, 0, 0, 0]), jgh, jgh, jgh, jgh, jgh, jgh, (101, [], [0, 0, 0, 0, 0, 0]), jgh, jgh, jgh, jgh, jgh, jgh, jgh, jgh]
theorem jA_197_343 {xs : List Int} {d : Nat} : jT xs d 197 17 0 [(0, (4, 0)), (1, (4, 1)), (2, (0, 0))] [] jpA_1524 0 0 (fun k v hsN => k = 0 ∧ v = (9, 0) ∧ hsN = jpA_1523) := by
  refine jT_advK 103 (pcN := 37) (LN := [(3, (0, 6)), (0, (4, 0)), (1, (4, 1)), (2, (0, 0))]) (stN := []) (hsN := jpA_1523) (c1 := 0) (s1 := 0) (c2 := 0) (s2 := 0) (by decide +kernel) ?_ (by omega) (by omega)
  exact jT_ret rfl (by decide) (by show 17 ≤ 17; decide) (by omega) (by omega) ⟨rfl, rfl, rfl⟩
theorem jA_203_344 {xs : List Int} {d : Nat} : jT xs d 203 16 0 [(0, (4, 0)), (1, (4, 1)), (2, (0, 57))] [] jpA_130 0 0 (fun k v hsN => k = 0 ∧ v = (9, 0) ∧ hsN = jpA_130 ++ []) := by
  refine jT_advK 12 (pcN := 17) (LN := [(3, (0, 0)), (0, (4, 0)), (1, (4, 1)), (2, (0, 57))]) (stN := [(0, 57), (4, 1), (0, 0), (4, 7)]) (hsN := jpA_130) (c1 := 0) (s1 := 0) (c2 := 0) (s2 := 0) (by decide +kernel) ?_ (by omega) (by omega)
  refine jT_iald (x := 0) (a := 1) (j := 57) (fs := []) (X := jS0) (by rfl) (by rfl) (by rfl) (by rfl) (by decide +kernel) ?_
  refine jT_eq (LN := [(3, (0, 0)), (0, (4, 0)), (1, (4, 1)), (2, (0, 57))]) (stN := [(0, 0), (0, 0), (4, 7)]) (hsN := jpA_130) rfl rfl rfl ?_
  refine jT_advK 14 (pcN := 17) (LN := [(3, (0, 1)), (0, (4, 0)), (1, (4, 1)), (2, (0, 57))]) (stN := [(0, 58), (4, 1), (0, 1), (4, 7)]) (hsN := jpA_130) (c1 := 0) (s1 := 0) (c2 := 0) (s2 := 0) (by decide +kernel) ?_ (by omega) (by omega)
  refine jT_iald (x := 0) (a := 1) (j := 58) (fs := []) (X := jS0) (by rfl) (by rfl) (by rfl) (by rfl) (by decide +kernel) ?_
  refine jT_eq (LN := [(3, (0, 1)), (0, (4, 0)), (1, (4, 1)), (2, (0, 57))]) (stN := [(0, 0), (0, 1), (4, 7)]) (hsN := jpA_130) rfl rfl rfl ?_
  refine jT_advK 14 (pcN := 17) (LN := [(3, (0, 2)), (0, (4, 0)), (1, (4, 1)), (2, (0, 57))]) (stN := [(0, 59), (4, 1), (0, 2), (4, 7)]) (hsN := jpA_130) (c1 := 0) (s1 := 0) (c2 := 0) (s2 := 0) (by decide +kernel) ?_ (by omega) (by omega)
  refine jT_iald (x := 0) (a := 1) (j := 59) (fs := []) (X := jS0) (by rfl) (by rfl) (by rfl) (by rfl) (by decide +kernel) ?_
  refine jT_eq (LN := [(3, (0, 2)), (0, (4, 0)), (1, (4, 1)), (2, (0, 57))]) (stN := [(0, 0), (0, 2), (4, 7)]) (hsN := jpA_130) rfl rfl rfl ?_
  refine jT_advK 14 (pcN := 17) (LN := [(3, (0, 3)), (0, (4, 0)), (1, (4, 1)), (2, (0, 57))]) (stN := [(0, 60), (4, 1), (0, 3), (4, 7)]) (hsN := jpA_130) (c1 := 0) (s1 := 0) (c2 := 0) (s2 := 0) (by decide +kernel) ?_ (by omega) (by omega)
  refine jT_iald (x := 0) (a := 1) (j := 60) (fs := []) (X := jS0) (by rfl) (by rfl) (by rfl) (by rfl) (by decide +kernel) ?_
  refine jT_eq (LN := [(3, (0, 3)), (0, (4, 0)), (1, (4, 1)), (2, (0, 57))]) (stN := [(0, 0), (0, 3), (4, 7)]) (hsN := jpA_130) rfl rfl rfl ?_
  refine jT_advK 14 (pcN := 17) (LN := [(3, (0, 4)), (0, (4, 0)), (1, (4, 1)), (2, (0, 57))]) (stN := [(0, 61), (4, 1), (0, 4), (4, 7)]) (hsN := jpA_130) (c1 := 0) (s1 := 0) (c2 := 0) (s2 := 0) (by decide +kernel) ?_ (by omega) (by omega)
  refine jT_iald (x := 0) (a := 1) (j := 61) (fs := []) (X := jS0) (by rfl) (by rfl) (by rfl) (by rfl) (by decide +kernel) ?_
  refine jT_eq (LN := [(3, (0, 4)), (0, (4, 0)), (1, (4, 1)), (2, (0, 57))]) (stN := [(0, 0), (0, 4), (4, 7)]) (hsN := jpA_130) rfl rfl rfl ?_
  refine jT_advK 14 (pcN := 17) (LN := [(3, (0, 5)), (0, (4, 0)), (1, (4, 1)), (2, (0, 57))]) (stN := [(0, 62), (4, 1), (0, 5), (4, 7)]) (hsN := jpA_130) (c1 := 0) (s1 := 0) (c2 := 0) (s2 := 0) (by decide +kernel) ?_ (by omega) (by omega)
  refine jT_iald (x := 0) (a := 1) (j := 62) (fs := []) (X := jS0) (by rfl) (by rfl) (by rfl) (by rfl) (by decide +kernel) ?_
  refine jT_eq (LN := [(3, (0, 5)), (0, (4, 0)), (1, (4, 1)), (2, (0, 57))]) (stN := [(0, 0), (0, 5), (4, 7)]) (hsN := jpA_130) rfl rfl rfl ?_
  refine jT_advK 12 (pcN := 32) (LN := [(3, (0, 6)), (0, (4, 0)), (1, (4, 1)), (2, (0, 57))]) (stN := [(0, 63), (4, 1), (4, 0)]) (hsN := jpA_130) (c1 := 0) (s1 := 0) (c2 := 0) (s2 := 0) (by decide +kernel) ?_ (by omega) (by omega)
  refine jT_iald (x := 1) (a := 1) (j := 63) (fs := []) (X := jS0) (by rfl) (by rfl) (by rfl) (by rfl) (by decide +kernel) ?_
  refine jT_eq (LN := [(3, (0, 6)), (0, (4, 0)), (1, (4, 1)), (2, (0, 57))]) (stN := [(0, 1), (4, 0)]) (hsN := jpA_130) rfl rfl rfl ?_
  refine jT_advK 2 (pcN := 37) (LN := [(3, (0, 6)), (0, (4, 0)), (1, (4, 1)), (2, (0, 57))]) (stN := []) (hsN := jpA_130) (c1 := 0) (s1 := 0) (c2 := 0) (s2 := 0) (by decide +kernel) ?_ (by omega) (by omega)
  exact jT_ret rfl (by decide) (by show 16 ≤ 16; decide) (by omega) (by omega) ⟨rfl, rfl, rfl⟩
def jzA_1525 : JC := (14, [(0, 0), (4, 2), (4, 3), (4, 4), (4, 5), (0, 0), (4, 6), (0, 0), (4, 7), (4, 8), (1, 1), (4, 1), (0, 0), (4, 9), (0, 0), (0, 0), (0, 0), (0, 0), (0, 0), (0, 0), (0, 0), (4, 10), (4, 11), (4, 12), (4, 13), (4, 14), (4, 15), (0, 0)], [])
def jpA_1526 : List JC := [jzA_1525, (100, [], (List.replicate 1792 0)), jgh, jgh, jgh, jgh, jgh, jgh, (101, [], [0, 0, 0, 0, 0, 0]), jgh, jgh, jgh, jgh, jgh, jgh, jgh]
def jzA_1527 : JC := (100, [], (((List.replicate 1792 0)).set 0 0))
def jpA_1528 : List JC := [jzA_1525, jzA_1527, jgh, jgh, jgh, jgh, jgh, jgh, (101, [], [0, 0, 0, 0, 0, 0]), jgh, jgh, jgh, jgh, jgh, jgh, jgh]
def jzA_1529 : JC := (100, [], (((((List.replicate 1792 0)).set 0 0)).set 1 0))
def jpA_1530 : List JC := [jzA_1525, jzA_1529, jgh, jgh, jgh, jgh, jgh, jgh, (101, [], [0, 0, 0, 0, 0, 0]), jgh, jgh, jgh, jgh, jgh, jgh, jgh]
def jzA_1531 : JC := (100, [], (((((((List.replicate 1792 0)).set 0 0)).set 1 0)).set 2 0))
def jpA_1532 : List JC := [jzA_1525, jzA_1531, jgh, jgh, jgh, jgh, jgh, jgh, (101, [], [0, 0, 0, 0, 0, 0]), jgh, jgh, jgh, jgh, jgh, jgh, jgh]
def jzA_1533 : JC := (100, [], (((((((((List.replicate 1792 0)).set 0 0)).set 1 0)).set 2 0)).set 3 0))
def jpA_1534 : List JC := [jzA_1525, jzA_1533, jgh, jgh, jgh, jgh, jgh, jgh, (101, [], [0, 0, 0, 0, 0, 0]), jgh, jgh, jgh, jgh, jgh, jgh, jgh]
def jzA_1535 : JC := (100, [], (((((((((((List.replicate 1792 0)).set 0 0)).set 1 0)).set 2 0)).set 3 0)).set 4 0))
def jpA_1536 : List JC := [jzA_1525, jzA_1535, jgh, jgh, jgh, jgh, jgh, jgh, (101, [], [0, 0, 0, 0, 0, 0]), jgh, jgh, jgh, jgh, jgh, jgh, jgh]
def jzA_1537 : JC := (100, [], (((((((((((((List.replicate 1792 0)).set 0 0)).set 1 0)).set 2 0)).set 3 0)).set 4 0)).set 5 0))
def jpA_1538 : List JC := [jzA_1525, jzA_1537, jgh, jgh, jgh, jgh, jgh, jgh, (101, [], [0, 0, 0, 0, 0, 0]), jgh, jgh, jgh, jgh, jgh, jgh, jgh]
def jzA_1539 : JC := (100, [], (((((((((((((((List.replicate 1792 0)).set 0 0)).set 1 0)).set 2 0)).set 3 0)).set 4 0)).set 5 0)).set 6 1))
def jpA_1540 : List JC := [jzA_1525, jzA_1539, jgh, jgh, jgh, jgh, jgh, jgh, (101, [], [0, 0, 0, 0, 0, 0]), jgh, jgh, jgh, jgh, jgh, jgh, jgh]
theorem jA_197_345 {xs : List Int} {d : Nat} : jT xs d 197 16 0 [(0, (4, 0)), (1, (4, 1)), (2, (0, 0))] [] jpA_1526 0 0 (fun k v hsN => k = 0 ∧ v = (9, 0) ∧ hsN = jpA_1540) := by
  refine jT_advK 14 (pcN := 19) (LN := [(3, (0, 0)), (0, (4, 0)), (1, (4, 1)), (2, (0, 0))]) (stN := [(0, 0), (0, 0), (4, 1)]) (hsN := jpA_1526) (c1 := 0) (s1 := 0) (c2 := 0) (s2 := 0) (by decide +kernel) ?_ (by omega) (by omega)
  refine jT_iast (x := 0) (a := 1) (j := 0) (fs := []) (X := (List.replicate 1792 0)) (by rfl) (by rfl) (by rfl) (by rfl) (by rw [show List.length ((List.replicate 1792 0) : List Int) = 1792 from List.length_replicate]; omega) ?_
  refine jT_eq (LN := [(3, (0, 0)), (0, (4, 0)), (1, (4, 1)), (2, (0, 0))]) (stN := []) (hsN := jpA_1528) rfl rfl rfl ?_
  refine jT_advK 14 (pcN := 19) (LN := [(3, (0, 1)), (0, (4, 0)), (1, (4, 1)), (2, (0, 0))]) (stN := [(0, 0), (0, 1), (4, 1)]) (hsN := jpA_1528) (c1 := 0) (s1 := 0) (c2 := 0) (s2 := 0) (by decide +kernel) ?_ (by omega) (by omega)
  refine jT_iast (x := 0) (a := 1) (j := 1) (fs := []) (X := (((List.replicate 1792 0)).set 0 0)) (by rfl) (by rfl) (by rfl) (by rfl) (by rw [show List.length ((((List.replicate 1792 0)).set 0 0) : List Int) = 1792 from by rw [List.length_set]; exact (List.length_replicate)]; omega) ?_
  refine jT_eq (LN := [(3, (0, 1)), (0, (4, 0)), (1, (4, 1)), (2, (0, 0))]) (stN := []) (hsN := jpA_1530) rfl rfl rfl ?_
  refine jT_advK 14 (pcN := 19) (LN := [(3, (0, 2)), (0, (4, 0)), (1, (4, 1)), (2, (0, 0))]) (stN := [(0, 0), (0, 2), (4, 1)]) (hsN := jpA_1530) (c1 := 0) (s1 := 0) (c2 := 0) (s2 := 0) (by decide +kernel) ?_ (by omega) (by omega)
  refine jT_iast (x := 0) (a := 1) (j := 2) (fs := []) (X := (((((List.replicate 1792 0)).set 0 0)).set 1 0)) (by rfl) (by rfl) (by rfl) (by rfl) (by rw [show List.length ((((((List.replicate 1792 0)).set 0 0)).set 1 0) : List Int) = 1792 from by rw [List.length_set, List.length_set]; exact (List.length_replicate)]; omega) ?_
  refine jT_eq (LN := [(3, (0, 2)), (0, (4, 0)), (1, (4, 1)), (2, (0, 0))]) (stN := []) (hsN := jpA_1532) rfl rfl rfl ?_
  refine jT_advK 14 (pcN := 19) (LN := [(3, (0, 3)), (0, (4, 0)), (1, (4, 1)), (2, (0, 0))]) (stN := [(0, 0), (0, 3), (4, 1)]) (hsN := jpA_1532) (c1 := 0) (s1 := 0) (c2 := 0) (s2 := 0) (by decide +kernel) ?_ (by omega) (by omega)
  refine jT_iast (x := 0) (a := 1) (j := 3) (fs := []) (X := (((((((List.replicate 1792 0)).set 0 0)).set 1 0)).set 2 0)) (by rfl) (by rfl) (by rfl) (by rfl) (by rw [show List.length ((((((((List.replicate 1792 0)).set 0 0)).set 1 0)).set 2 0) : List Int) = 1792 from by rw [List.length_set, List.length_set, List.length_set]; exact (List.length_replicate)]; omega) ?_
  refine jT_eq (LN := [(3, (0, 3)), (0, (4, 0)), (1, (4, 1)), (2, (0, 0))]) (stN := []) (hsN := jpA_1534) rfl rfl rfl ?_
  refine jT_advK 14 (pcN := 19) (LN := [(3, (0, 4)), (0, (4, 0)), (1, (4, 1)), (2, (0, 0))]) (stN := [(0, 0), (0, 4), (4, 1)]) (hsN := jpA_1534) (c1 := 0) (s1 := 0) (c2 := 0) (s2 := 0) (by decide +kernel) ?_ (by omega) (by omega)
  refine jT_iast (x := 0) (a := 1) (j := 4) (fs := []) (X := (((((((((List.replicate 1792 0)).set 0 0)).set 1 0)).set 2 0)).set 3 0)) (by rfl) (by rfl) (by rfl) (by rfl) (by rw [show List.length ((((((((((List.replicate 1792 0)).set 0 0)).set 1 0)).set 2 0)).set 3 0) : List Int) = 1792 from by rw [List.length_set, List.length_set, List.length_set, List.length_set]; exact (List.length_replicate)]; omega) ?_
  refine jT_eq (LN := [(3, (0, 4)), (0, (4, 0)), (1, (4, 1)), (2, (0, 0))]) (stN := []) (hsN := jpA_1536) rfl rfl rfl ?_
  refine jT_advK 14 (pcN := 19) (LN := [(3, (0, 5)), (0, (4, 0)), (1, (4, 1)), (2, (0, 0))]) (stN := [(0, 0), (0, 5), (4, 1)]) (hsN := jpA_1536) (c1 := 0) (s1 := 0) (c2 := 0) (s2 := 0) (by decide +kernel) ?_ (by omega) (by omega)
  refine jT_iast (x := 0) (a := 1) (j := 5) (fs := []) (X := (((((((((((List.replicate 1792 0)).set 0 0)).set 1 0)).set 2 0)).set 3 0)).set 4 0)) (by rfl) (by rfl) (by rfl) (by rfl) (by rw [show List.length ((((((((((((List.replicate 1792 0)).set 0 0)).set 1 0)).set 2 0)).set 3 0)).set 4 0) : List Int) = 1792 from by rw [List.length_set, List.length_set, List.length_set, List.length_set, List.length_set]; exact (List.length_replicate)]; omega) ?_
  refine jT_eq (LN := [(3, (0, 5)), (0, (4, 0)), (1, (4, 1)), (2, (0, 0))]) (stN := []) (hsN := jpA_1538) rfl rfl rfl ?_
  refine jT_advK 12 (pcN := 36) (LN := [(3, (0, 6)), (0, (4, 0)), (1, (4, 1)), (2, (0, 0))]) (stN := [(0, 1), (0, 6), (4, 1)]) (hsN := jpA_1538) (c1 := 0) (s1 := 0) (c2 := 0) (s2 := 0) (by decide +kernel) ?_ (by omega) (by omega)
  refine jT_iast (x := 1) (a := 1) (j := 6) (fs := []) (X := (((((((((((((List.replicate 1792 0)).set 0 0)).set 1 0)).set 2 0)).set 3 0)).set 4 0)).set 5 0)) (by rfl) (by rfl) (by rfl) (by rfl) (by rw [show List.length ((((((((((((((List.replicate 1792 0)).set 0 0)).set 1 0)).set 2 0)).set 3 0)).set 4 0)).set 5 0) : List Int) = 1792 from by rw [List.length_set, List.length_set, List.length_set, List.length_set, List.length_set, List.length_set]; exact (List.length_replicate)]; omega) ?_
  refine jT_eq (LN := [(3, (0, 6)), (0, (4, 0)), (1, (4, 1)), (2, (0, 0))]) (stN := []) (hsN := jpA_1540) rfl rfl rfl ?_
  exact jT_ret rfl (by decide) (by show 16 ≤ 16; decide) (by omega) (by omega) ⟨rfl, rfl, rfl⟩
def jpA_1541 : List JC := [jzA_21, jgh, jgh, jgh, jgh, jgh, jgh, (101, [], [0, 0, 0, 0, 0, 0]), (100, [], (List.replicate 1792 0)), jgh, jgh, jgh, jgh, jgh, jgh, jgh]
def jpA_1542 : List JC := [jzA_21, jgh, jgh, jgh, jgh, jgh, jgh, (101, [], [0, 0, 0, 0, 0, 0]), jzA_1539, jgh, jgh, jgh, jgh, jgh, jgh, jgh]
def jzA_1543 : JC := (14, [(0, 0), (4, 1), (4, 2), (4, 3), (4, 4), (0, 0), (4, 5), (0, 0), (4, 6), (4, 7), (1, 1), (4, 8), (0, 1), (4, 9), (0, 0), (0, 0), (0, 0), (0, 0), (0, 0), (0, 0), (0, 0), (4, 10), (4, 11), (4, 12), (4, 13), (4, 14), (4, 15), (0, 0)], [])
def jpA_1544 : List JC := [jzA_1543, jgh, jgh, jgh, jgh, jgh, jgh, (101, [], [0, 0, 0, 0, 0, 0]), jzA_1539, jgh, jgh, jgh, jgh, jgh, jgh, jgh]
theorem jA_239_346 {xs : List Int} {d : Nat} : jT xs (d + 1) 239 16 0 [(0, (4, 0))] [] jpA_1541 0 0 (fun k v hsN => k = 0 ∧ v = (9, 0) ∧ hsN = jpA_1544) := by
  refine jT_advK 28 (pcN := 103) (LN := [(2, (0, (-1))), (1, (0, 0)), (0, (4, 0))]) (stN := [(0, 0), (4, 8), (4, 0)]) (hsN := jpA_1541) (c1 := 0) (s1 := 0) (c2 := 0) (s2 := 0) (by decide +kernel) ?_ (by omega) (by omega)
  refine jT_fB [0, 8, 1, 2, 3, 4, 5, 6, 7, 9, 10, 11, 12, 13, 14, 15] 16 (y := 197) (pcN := 106) (dC := 0) (bc1 := 0) (bc2 := 0) (c1 := 0) (c2 := 0) (as := [(4, 0), (4, 8), (0, 0)]) (asC := [(4, 0), (4, 1), (0, 0)]) (LN := [(2, (0, (-1))), (1, (0, 0)), (0, (4, 0))]) (stN := []) (hsC := jpA_1526) (hsD := jpA_1540) (v := (9, 0)) (st2 := []) (hs2 := jpA_1542) (jA_197_345 (d := 0)) (by rfl) (by rfl) (by decide +kernel) (by rfl) (by rfl) (by omega) (by omega) (by omega) (by omega) rfl (by decide +kernel) ?_
  refine jT_advK 6 (pcN := 116) (LN := [(2, (0, (-1))), (1, (0, 0)), (0, (4, 0))]) (stN := []) (hsN := jpA_1544) (c1 := 0) (s1 := 0) (c2 := 0) (s2 := 0) (by decide +kernel) ?_ (by omega) (by omega)
  exact jT_ret rfl (by decide) (by show 16 ≤ 16; decide) (by omega) (by omega) ⟨rfl, rfl, rfl⟩
def jpA_1545 : List JC := [jzA_1543, (100, [], jS0), jgh, jgh, jgh, jgh, jgh, jgh, jgh, jgh, jgh, jgh, jgh, jgh, jgh, jgh]
theorem jA_245_347 {xs : List Int} {d : Nat} : jT xs d 245 16 0 [(0, (4, 0)), (1, (0, 0))] [] jpA_1545 0 0 (fun k v hsN => k = 0 ∧ v = (0, 1) ∧ hsN = jpA_1545 ++ []) := by
  refine jT_advK 7 (pcN := 12) (LN := [(0, (4, 0)), (1, (0, 0))]) (stN := [(0, 56), (4, 1)]) (hsN := jpA_1545) (c1 := 0) (s1 := 0) (c2 := 0) (s2 := 0) (by decide +kernel) ?_ (by omega) (by omega)
  refine jT_iald (x := 1) (a := 1) (j := 56) (fs := []) (X := jS0) (by rfl) (by rfl) (by rfl) (by rfl) (by decide +kernel) ?_
  refine jT_eq (LN := [(0, (4, 0)), (1, (0, 0))]) (stN := [(0, 1)]) (hsN := jpA_1545) rfl rfl rfl ?_
  exact jT_ret rfl (by decide) (by show 16 ≤ 16; decide) (by omega) (by omega) ⟨rfl, rfl, rfl⟩
def jzA_1546 : JC := (14, [(0, 0), (4, 2), (4, 3), (4, 4), (4, 5), (0, 0), (4, 6), (0, 0), (4, 7), (4, 8), (1, 1), (4, 9), (0, 1), (4, 10), (0, 0), (0, 0), (0, 0), (0, 0), (0, 0), (0, 0), (0, 0), (4, 11), (4, 12), (4, 13), (4, 14), (4, 15), (4, 16), (0, 0)], [])
def jpA_1547 : List JC := [jzA_1546, (100, [], [0, 0, 0, 0, 0, 0, 1]), jgh, jgh, jgh, jgh, jgh, jgh, (101, [], [0, 0, 0, 0, 0, 0]), jgh, jgh, jgh, jgh, jgh, jgh, jgh, jgh]
theorem jA_203_348 {xs : List Int} {d : Nat} : jT xs d 203 17 0 [(0, (4, 0)), (1, (4, 1)), (2, (0, 0))] [] jpA_1547 0 0 (fun k v hsN => k = 0 ∧ v = (9, 0) ∧ hsN = jpA_1547 ++ []) := by
  refine jT_advK 103 (pcN := 37) (LN := [(3, (0, 6)), (0, (4, 0)), (1, (4, 1)), (2, (0, 0))]) (stN := []) (hsN := jpA_1547) (c1 := 0) (s1 := 0) (c2 := 0) (s2 := 0) (by decide +kernel) ?_ (by omega) (by omega)
  exact jT_ret rfl (by decide) (by show 17 ≤ 17; decide) (by omega) (by omega) ⟨rfl, rfl, rfl⟩
def jzA_1548 : JC := (14, [(0, 0), (4, 2), (4, 3), (4, 4), (4, 5), (0, 0), (4, 6), (0, 0), (4, 7), (4, 8), (1, 1), (4, 1), (0, 1), (4, 9), (0, 0), (0, 0), (0, 0), (0, 0), (0, 0), (0, 0), (0, 0), (4, 10), (4, 11), (4, 12), (4, 13), (4, 14), (4, 15), (0, 0)], [])
def jpA_1549 : List JC := [jzA_1548, jzA_1539, jgh, jgh, jgh, jgh, jgh, jgh, (101, [], [0, 0, 0, 0, 0, 0]), jgh, jgh, jgh, jgh, jgh, jgh, jgh, (101, [], [0, 0, 0, 0, 0, 0])]
theorem jI_240_30 : jmI (jm 240) 30 = (.iaload, 1) := by rfl
theorem jI_240_38 : jmI (jm 240) 38 = (.iaload, 1) := by rfl
def jpA_1552 : List JC := [jzA_1548, jzA_1539, jgh, jgh, jgh, jgh, jgh, jgh, (101, [], [0, 0, 0, 0, 0, 0]), jgh, jgh, jgh, jgh, jgh, jgh, jgh]
theorem jA_240_349 {xs : List Int} {d : Nat} : jT xs (d + 2) 240 16 0 [(0, (4, 0)), (1, (4, 1)), (2, (0, 0))] [] jpA_1552 1 6 (fun k v hsN => k = 0 ∧ v = (0, 0) ∧ hsN = jpA_1552 ++ [(101, [], [0, 0, 0, 0, 0, 0])]) := by
  refine jT_advK 18 (pcN := 30) (LN := [(4, (0, 0)), (3, (4, 16)), (0, (4, 0)), (1, (4, 1)), (2, (0, 0))]) (stN := [(0, 6), (4, 1), (1, 0), (0, 0), (4, 16)]) (hsN := jpA_1549) (c1 := 1) (s1 := 6) (c2 := 0) (s2 := 0) (by decide +kernel) ?_ (by omega) (by omega)
  refine jT_iald (x := 1) (a := 1) (j := 6) (fs := []) (X := (((((((((((((((List.replicate 1792 0)).set 0 0)).set 1 0)).set 2 0)).set 3 0)).set 4 0)).set 5 0)).set 6 1)) (by rfl) (by rfl) (by rfl) (by rfl) (by rw [List.getElem?_set_self (by simp only [List.length_set, List.length_replicate, List.length_cons, List.length_nil, jS0_len]; omega)]) ?_
  refine jT_eq (LN := [(4, (0, 0)), (3, (4, 16)), (0, (4, 0)), (1, (4, 1)), (2, (0, 0))]) (stN := [(0, 1), (1, 0), (0, 0), (4, 16)]) (hsN := jpA_1549) rfl rfl rfl ?_
  refine jT_advK 6 (pcN := 38) (LN := [(4, (0, 0)), (3, (4, 16)), (0, (4, 0)), (1, (4, 1)), (2, (0, 0))]) (stN := [(0, 0), (4, 1), (1, 0), (0, 0), (4, 16)]) (hsN := jpA_1549) (c1 := 0) (s1 := 0) (c2 := 0) (s2 := 0) (by decide +kernel) ?_ (by omega) (by omega)
  refine jT_iald (x := 0) (a := 1) (j := 0) (fs := []) (X := (((((((((((((((List.replicate 1792 0)).set 0 0)).set 1 0)).set 2 0)).set 3 0)).set 4 0)).set 5 0)).set 6 1)) (by rfl) (by rfl) (by rfl) (by rfl) (by rw [List.getElem?_set_ne (by omega), List.getElem?_set_ne (by omega), List.getElem?_set_ne (by omega), List.getElem?_set_ne (by omega), List.getElem?_set_ne (by omega), List.getElem?_set_ne (by omega), List.getElem?_set_self (by simp only [List.length_set, List.length_replicate, List.length_cons, List.length_nil, jS0_len]; omega)]) ?_
  refine jT_eq (LN := [(4, (0, 0)), (3, (4, 16)), (0, (4, 0)), (1, (4, 1)), (2, (0, 0))]) (stN := [(0, 0), (1, 0), (0, 0), (4, 16)]) (hsN := jpA_1549) rfl rfl rfl ?_
  refine jT_advK 21 (pcN := 30) (LN := [(4, (0, 1)), (3, (4, 16)), (0, (4, 0)), (1, (4, 1)), (2, (0, 0))]) (stN := [(0, 6), (4, 1), (1, 0), (0, 1), (4, 16)]) (hsN := jpA_1549) (c1 := 0) (s1 := 0) (c2 := 0) (s2 := 0) (by decide +kernel) ?_ (by omega) (by omega)
  refine jT_iald (x := 1) (a := 1) (j := 6) (fs := []) (X := (((((((((((((((List.replicate 1792 0)).set 0 0)).set 1 0)).set 2 0)).set 3 0)).set 4 0)).set 5 0)).set 6 1)) (by rfl) (by rfl) (by rfl) (by rfl) (by rw [List.getElem?_set_self (by simp only [List.length_set, List.length_replicate, List.length_cons, List.length_nil, jS0_len]; omega)]) ?_
  refine jT_eq (LN := [(4, (0, 1)), (3, (4, 16)), (0, (4, 0)), (1, (4, 1)), (2, (0, 0))]) (stN := [(0, 1), (1, 0), (0, 1), (4, 16)]) (hsN := jpA_1549) rfl rfl rfl ?_
  refine jT_advK 6 (pcN := 38) (LN := [(4, (0, 1)), (3, (4, 16)), (0, (4, 0)), (1, (4, 1)), (2, (0, 0))]) (stN := [(0, 1), (4, 1), (1, 0), (0, 1), (4, 16)]) (hsN := jpA_1549) (c1 := 0) (s1 := 0) (c2 := 0) (s2 := 0) (by decide +kernel) ?_ (by omega) (by omega)
  refine jT_iald (x := 0) (a := 1) (j := 1) (fs := []) (X := (((((((((((((((List.replicate 1792 0)).set 0 0)).set 1 0)).set 2 0)).set 3 0)).set 4 0)).set 5 0)).set 6 1)) (by rfl) (by rfl) (by rfl) (by rfl) (by rw [List.getElem?_set_ne (by omega), List.getElem?_set_ne (by omega), List.getElem?_set_ne (by omega), List.getElem?_set_ne (by omega), List.getElem?_set_ne (by omega), List.getElem?_set_self (by simp only [List.length_set, List.length_replicate, List.length_cons, List.length_nil, jS0_len]; omega)]) ?_
  refine jT_eq (LN := [(4, (0, 1)), (3, (4, 16)), (0, (4, 0)), (1, (4, 1)), (2, (0, 0))]) (stN := [(0, 0), (1, 0), (0, 1), (4, 16)]) (hsN := jpA_1549) rfl rfl rfl ?_
  refine jT_advK 21 (pcN := 30) (LN := [(4, (0, 2)), (3, (4, 16)), (0, (4, 0)), (1, (4, 1)), (2, (0, 0))]) (stN := [(0, 6), (4, 1), (1, 0), (0, 2), (4, 16)]) (hsN := jpA_1549) (c1 := 0) (s1 := 0) (c2 := 0) (s2 := 0) (by decide +kernel) ?_ (by omega) (by omega)
  refine jT_iald (x := 1) (a := 1) (j := 6) (fs := []) (X := (((((((((((((((List.replicate 1792 0)).set 0 0)).set 1 0)).set 2 0)).set 3 0)).set 4 0)).set 5 0)).set 6 1)) (by rfl) (by rfl) (by rfl) (by rfl) (by rw [List.getElem?_set_self (by simp only [List.length_set, List.length_replicate, List.length_cons, List.length_nil, jS0_len]; omega)]) ?_
  refine jT_eq (LN := [(4, (0, 2)), (3, (4, 16)), (0, (4, 0)), (1, (4, 1)), (2, (0, 0))]) (stN := [(0, 1), (1, 0), (0, 2), (4, 16)]) (hsN := jpA_1549) rfl rfl rfl ?_
  refine jT_advK 6 (pcN := 38) (LN := [(4, (0, 2)), (3, (4, 16)), (0, (4, 0)), (1, (4, 1)), (2, (0, 0))]) (stN := [(0, 2), (4, 1), (1, 0), (0, 2), (4, 16)]) (hsN := jpA_1549) (c1 := 0) (s1 := 0) (c2 := 0) (s2 := 0) (by decide +kernel) ?_ (by omega) (by omega)
  refine jT_iald (x := 0) (a := 1) (j := 2) (fs := []) (X := (((((((((((((((List.replicate 1792 0)).set 0 0)).set 1 0)).set 2 0)).set 3 0)).set 4 0)).set 5 0)).set 6 1)) (by rfl) (by rfl) (by rfl) (by rfl) (by rw [List.getElem?_set_ne (by omega), List.getElem?_set_ne (by omega), List.getElem?_set_ne (by omega), List.getElem?_set_ne (by omega), List.getElem?_set_self (by simp only [List.length_set, List.length_replicate, List.length_cons, List.length_nil, jS0_len]; omega)]) ?_
  refine jT_eq (LN := [(4, (0, 2)), (3, (4, 16)), (0, (4, 0)), (1, (4, 1)), (2, (0, 0))]) (stN := [(0, 0), (1, 0), (0, 2), (4, 16)]) (hsN := jpA_1549) rfl rfl rfl ?_
  refine jT_advK 21 (pcN := 30) (LN := [(4, (0, 3)), (3, (4, 16)), (0, (4, 0)), (1, (4, 1)), (2, (0, 0))]) (stN := [(0, 6), (4, 1), (1, 0), (0, 3), (4, 16)]) (hsN := jpA_1549) (c1 := 0) (s1 := 0) (c2 := 0) (s2 := 0) (by decide +kernel) ?_ (by omega) (by omega)
  refine jT_iald (x := 1) (a := 1) (j := 6) (fs := []) (X := (((((((((((((((List.replicate 1792 0)).set 0 0)).set 1 0)).set 2 0)).set 3 0)).set 4 0)).set 5 0)).set 6 1)) (by rfl) (by rfl) (by rfl) (by rfl) (by rw [List.getElem?_set_self (by simp only [List.length_set, List.length_replicate, List.length_cons, List.length_nil, jS0_len]; omega)]) ?_
  refine jT_eq (LN := [(4, (0, 3)), (3, (4, 16)), (0, (4, 0)), (1, (4, 1)), (2, (0, 0))]) (stN := [(0, 1), (1, 0), (0, 3), (4, 16)]) (hsN := jpA_1549) rfl rfl rfl ?_
  refine jT_advK 6 (pcN := 38) (LN := [(4, (0, 3)), (3, (4, 16)), (0, (4, 0)), (1, (4, 1)), (2, (0, 0))]) (stN := [(0, 3), (4, 1), (1, 0), (0, 3), (4, 16)]) (hsN := jpA_1549) (c1 := 0) (s1 := 0) (c2 := 0) (s2 := 0) (by decide +kernel) ?_ (by omega) (by omega)
  refine jT_iald (x := 0) (a := 1) (j := 3) (fs := []) (X := (((((((((((((((List.replicate 1792 0)).set 0 0)).set 1 0)).set 2 0)).set 3 0)).set 4 0)).set 5 0)).set 6 1)) (by rfl) (by rfl) (by rfl) (by rfl) (by rw [List.getElem?_set_ne (by omega), List.getElem?_set_ne (by omega), List.getElem?_set_ne (by omega), List.getElem?_set_self (by simp only [List.length_set, List.length_replicate, List.length_cons, List.length_nil, jS0_len]; omega)]) ?_
  refine jT_eq (LN := [(4, (0, 3)), (3, (4, 16)), (0, (4, 0)), (1, (4, 1)), (2, (0, 0))]) (stN := [(0, 0), (1, 0), (0, 3), (4, 16)]) (hsN := jpA_1549) rfl rfl rfl ?_
  refine jT_advK 21 (pcN := 30) (LN := [(4, (0, 4)), (3, (4, 16)), (0, (4, 0)), (1, (4, 1)), (2, (0, 0))]) (stN := [(0, 6), (4, 1), (1, 0), (0, 4), (4, 16)]) (hsN := jpA_1549) (c1 := 0) (s1 := 0) (c2 := 0) (s2 := 0) (by decide +kernel) ?_ (by omega) (by omega)
  refine jT_iald (x := 1) (a := 1) (j := 6) (fs := []) (X := (((((((((((((((List.replicate 1792 0)).set 0 0)).set 1 0)).set 2 0)).set 3 0)).set 4 0)).set 5 0)).set 6 1)) (by rfl) (by rfl) (by rfl) (by rfl) (by rw [List.getElem?_set_self (by simp only [List.length_set, List.length_replicate, List.length_cons, List.length_nil, jS0_len]; omega)]) ?_
  refine jT_eq (LN := [(4, (0, 4)), (3, (4, 16)), (0, (4, 0)), (1, (4, 1)), (2, (0, 0))]) (stN := [(0, 1), (1, 0), (0, 4), (4, 16)]) (hsN := jpA_1549) rfl rfl rfl ?_
  refine jT_advK 6 (pcN := 38) (LN := [(4, (0, 4)), (3, (4, 16)), (0, (4, 0)), (1, (4, 1)), (2, (0, 0))]) (stN := [(0, 4), (4, 1), (1, 0), (0, 4), (4, 16)]) (hsN := jpA_1549) (c1 := 0) (s1 := 0) (c2 := 0) (s2 := 0) (by decide +kernel) ?_ (by omega) (by omega)
  refine jT_iald (x := 0) (a := 1) (j := 4) (fs := []) (X := (((((((((((((((List.replicate 1792 0)).set 0 0)).set 1 0)).set 2 0)).set 3 0)).set 4 0)).set 5 0)).set 6 1)) (by rfl) (by rfl) (by rfl) (by rfl) (by rw [List.getElem?_set_ne (by omega), List.getElem?_set_ne (by omega), List.getElem?_set_self (by simp only [List.length_set, List.length_replicate, List.length_cons, List.length_nil, jS0_len]; omega)]) ?_
  refine jT_eq (LN := [(4, (0, 4)), (3, (4, 16)), (0, (4, 0)), (1, (4, 1)), (2, (0, 0))]) (stN := [(0, 0), (1, 0), (0, 4), (4, 16)]) (hsN := jpA_1549) rfl rfl rfl ?_
  refine jT_advK 21 (pcN := 30) (LN := [(4, (0, 5)), (3, (4, 16)), (0, (4, 0)), (1, (4, 1)), (2, (0, 0))]) (stN := [(0, 6), (4, 1), (1, 0), (0, 5), (4, 16)]) (hsN := jpA_1549) (c1 := 0) (s1 := 0) (c2 := 0) (s2 := 0) (by decide +kernel) ?_ (by omega) (by omega)
  refine jT_iald (x := 1) (a := 1) (j := 6) (fs := []) (X := (((((((((((((((List.replicate 1792 0)).set 0 0)).set 1 0)).set 2 0)).set 3 0)).set 4 0)).set 5 0)).set 6 1)) (by rfl) (by rfl) (by rfl) (by rfl) (by rw [List.getElem?_set_self (by simp only [List.length_set, List.length_replicate, List.length_cons, List.length_nil, jS0_len]; omega)]) ?_
  refine jT_eq (LN := [(4, (0, 5)), (3, (4, 16)), (0, (4, 0)), (1, (4, 1)), (2, (0, 0))]) (stN := [(0, 1), (1, 0), (0, 5), (4, 16)]) (hsN := jpA_1549) rfl rfl rfl ?_
  refine jT_advK 6 (pcN := 38) (LN := [(4, (0, 5)), (3, (4, 16)), (0, (4, 0)), (1, (4, 1)), (2, (0, 0))]) (stN := [(0, 5), (4, 1), (1, 0), (0, 5), (4, 16)]) (hsN := jpA_1549) (c1 := 0) (s1 := 0) (c2 := 0) (s2 := 0) (by decide +kernel) ?_ (by omega) (by omega)
  refine jT_iald (x := 0) (a := 1) (j := 5) (fs := []) (X := (((((((((((((((List.replicate 1792 0)).set 0 0)).set 1 0)).set 2 0)).set 3 0)).set 4 0)).set 5 0)).set 6 1)) (by rfl) (by rfl) (by rfl) (by rfl) (by rw [List.getElem?_set_ne (by omega), List.getElem?_set_self (by simp only [List.length_set, List.length_replicate, List.length_cons, List.length_nil, jS0_len]; omega)]) ?_
  refine jT_eq (LN := [(4, (0, 5)), (3, (4, 16)), (0, (4, 0)), (1, (4, 1)), (2, (0, 0))]) (stN := [(0, 0), (1, 0), (0, 5), (4, 16)]) (hsN := jpA_1549) rfl rfl rfl ?_
  refine jT_advK 13 (pcN := 55) (LN := [(4, (0, 6)), (3, (4, 16)), (0, (4, 0)), (1, (4, 1)), (2, (0, 0))]) (stN := [(4, 16), (4, 0)]) (hsN := jpA_1549) (c1 := 0) (s1 := 0) (c2 := 0) (s2 := 0) (by decide +kernel) ?_ (by omega) (by omega)
  refine jT_fR [0, 16] 17 (y := 213) (pcN := 58) (dC := 1) (bc1 := 0) (bc2 := 0) (c1 := 0) (c2 := 0) (as := [(4, 0), (4, 16)]) (asC := [(4, 0), (4, 1)]) (LN := [(4, (0, 6)), (3, (4, 16)), (0, (4, 0)), (1, (4, 1)), (2, (0, 0))]) (stN := []) (hsC := [jgh, (101, [], [0, 0, 0, 0, 0, 0])]) (v := (0, 0)) (st2 := [(0, 0)]) (jA_213_152 (d := 0)) (by rfl) (by rfl) (by decide +kernel) (by rfl) (by rfl) (by omega) (by omega) (by omega) (by omega) rfl ?_
  exact jT_ret rfl (by decide) (by show 16 ≤ 17; decide) (by omega) (by omega) ⟨rfl, rfl, rfl⟩
theorem jA_236_350 {xs : List Int} {d : Nat} : jT xs d 236 16 0 [(0, (4, 0)), (1, (4, 1)), (2, (0, 0))] [] jpA_1552 0 0 (fun k v hsN => k = 0 ∧ v = (0, 1) ∧ hsN = jpA_1552 ++ []) := by
  refine jT_advK 6 (pcN := 9) (LN := [(0, (4, 0)), (1, (4, 1)), (2, (0, 0))]) (stN := [(0, 6), (4, 1), (1, 1)]) (hsN := jpA_1552) (c1 := 0) (s1 := 0) (c2 := 0) (s2 := 0) (by decide +kernel) ?_ (by omega) (by omega)
  refine jT_iald (x := 1) (a := 1) (j := 6) (fs := []) (X := (((((((((((((((List.replicate 1792 0)).set 0 0)).set 1 0)).set 2 0)).set 3 0)).set 4 0)).set 5 0)).set 6 1)) (by rfl) (by rfl) (by rfl) (by rfl) (by rw [List.getElem?_set_self (by simp only [List.length_set, List.length_replicate, List.length_cons, List.length_nil, jS0_len]; omega)]) ?_
  refine jT_eq (LN := [(0, (4, 0)), (1, (4, 1)), (2, (0, 0))]) (stN := [(0, 1), (1, 1)]) (hsN := jpA_1552) rfl rfl rfl ?_
  refine jT_advK 21 (pcN := 47) (LN := [(4, (0, 0)), (3, (0, 1)), (0, (4, 0)), (1, (4, 1)), (2, (0, 0))]) (stN := [(0, 0), (4, 1), (1, 0)]) (hsN := jpA_1552) (c1 := 0) (s1 := 0) (c2 := 0) (s2 := 0) (by decide +kernel) ?_ (by omega) (by omega)
  refine jT_iald (x := 0) (a := 1) (j := 0) (fs := []) (X := (((((((((((((((List.replicate 1792 0)).set 0 0)).set 1 0)).set 2 0)).set 3 0)).set 4 0)).set 5 0)).set 6 1)) (by rfl) (by rfl) (by rfl) (by rfl) (by rw [List.getElem?_set_ne (by omega), List.getElem?_set_ne (by omega), List.getElem?_set_ne (by omega), List.getElem?_set_ne (by omega), List.getElem?_set_ne (by omega), List.getElem?_set_ne (by omega), List.getElem?_set_self (by simp only [List.length_set, List.length_replicate, List.length_cons, List.length_nil, jS0_len]; omega)]) ?_
  refine jT_eq (LN := [(4, (0, 0)), (3, (0, 1)), (0, (4, 0)), (1, (4, 1)), (2, (0, 0))]) (stN := [(0, 0), (1, 0)]) (hsN := jpA_1552) rfl rfl rfl ?_
  refine jT_advK 21 (pcN := 47) (LN := [(4, (0, 1)), (3, (0, 1)), (0, (4, 0)), (1, (4, 1)), (2, (0, 0))]) (stN := [(0, 1), (4, 1), (1, 0)]) (hsN := jpA_1552) (c1 := 0) (s1 := 0) (c2 := 0) (s2 := 0) (by decide +kernel) ?_ (by omega) (by omega)
  refine jT_iald (x := 0) (a := 1) (j := 1) (fs := []) (X := (((((((((((((((List.replicate 1792 0)).set 0 0)).set 1 0)).set 2 0)).set 3 0)).set 4 0)).set 5 0)).set 6 1)) (by rfl) (by rfl) (by rfl) (by rfl) (by rw [List.getElem?_set_ne (by omega), List.getElem?_set_ne (by omega), List.getElem?_set_ne (by omega), List.getElem?_set_ne (by omega), List.getElem?_set_ne (by omega), List.getElem?_set_self (by simp only [List.length_set, List.length_replicate, List.length_cons, List.length_nil, jS0_len]; omega)]) ?_
  refine jT_eq (LN := [(4, (0, 1)), (3, (0, 1)), (0, (4, 0)), (1, (4, 1)), (2, (0, 0))]) (stN := [(0, 0), (1, 0)]) (hsN := jpA_1552) rfl rfl rfl ?_
  refine jT_advK 21 (pcN := 47) (LN := [(4, (0, 2)), (3, (0, 1)), (0, (4, 0)), (1, (4, 1)), (2, (0, 0))]) (stN := [(0, 2), (4, 1), (1, 0)]) (hsN := jpA_1552) (c1 := 0) (s1 := 0) (c2 := 0) (s2 := 0) (by decide +kernel) ?_ (by omega) (by omega)
  refine jT_iald (x := 0) (a := 1) (j := 2) (fs := []) (X := (((((((((((((((List.replicate 1792 0)).set 0 0)).set 1 0)).set 2 0)).set 3 0)).set 4 0)).set 5 0)).set 6 1)) (by rfl) (by rfl) (by rfl) (by rfl) (by rw [List.getElem?_set_ne (by omega), List.getElem?_set_ne (by omega), List.getElem?_set_ne (by omega), List.getElem?_set_ne (by omega), List.getElem?_set_self (by simp only [List.length_set, List.length_replicate, List.length_cons, List.length_nil, jS0_len]; omega)]) ?_
  refine jT_eq (LN := [(4, (0, 2)), (3, (0, 1)), (0, (4, 0)), (1, (4, 1)), (2, (0, 0))]) (stN := [(0, 0), (1, 0)]) (hsN := jpA_1552) rfl rfl rfl ?_
  refine jT_advK 21 (pcN := 47) (LN := [(4, (0, 3)), (3, (0, 1)), (0, (4, 0)), (1, (4, 1)), (2, (0, 0))]) (stN := [(0, 3), (4, 1), (1, 0)]) (hsN := jpA_1552) (c1 := 0) (s1 := 0) (c2 := 0) (s2 := 0) (by decide +kernel) ?_ (by omega) (by omega)
  refine jT_iald (x := 0) (a := 1) (j := 3) (fs := []) (X := (((((((((((((((List.replicate 1792 0)).set 0 0)).set 1 0)).set 2 0)).set 3 0)).set 4 0)).set 5 0)).set 6 1)) (by rfl) (by rfl) (by rfl) (by rfl) (by rw [List.getElem?_set_ne (by omega), List.getElem?_set_ne (by omega), List.getElem?_set_ne (by omega), List.getElem?_set_self (by simp only [List.length_set, List.length_replicate, List.length_cons, List.length_nil, jS0_len]; omega)]) ?_
  refine jT_eq (LN := [(4, (0, 3)), (3, (0, 1)), (0, (4, 0)), (1, (4, 1)), (2, (0, 0))]) (stN := [(0, 0), (1, 0)]) (hsN := jpA_1552) rfl rfl rfl ?_
  refine jT_advK 21 (pcN := 47) (LN := [(4, (0, 4)), (3, (0, 1)), (0, (4, 0)), (1, (4, 1)), (2, (0, 0))]) (stN := [(0, 4), (4, 1), (1, 0)]) (hsN := jpA_1552) (c1 := 0) (s1 := 0) (c2 := 0) (s2 := 0) (by decide +kernel) ?_ (by omega) (by omega)
  refine jT_iald (x := 0) (a := 1) (j := 4) (fs := []) (X := (((((((((((((((List.replicate 1792 0)).set 0 0)).set 1 0)).set 2 0)).set 3 0)).set 4 0)).set 5 0)).set 6 1)) (by rfl) (by rfl) (by rfl) (by rfl) (by rw [List.getElem?_set_ne (by omega), List.getElem?_set_ne (by omega), List.getElem?_set_self (by simp only [List.length_set, List.length_replicate, List.length_cons, List.length_nil, jS0_len]; omega)]) ?_
  refine jT_eq (LN := [(4, (0, 4)), (3, (0, 1)), (0, (4, 0)), (1, (4, 1)), (2, (0, 0))]) (stN := [(0, 0), (1, 0)]) (hsN := jpA_1552) rfl rfl rfl ?_
  refine jT_advK 21 (pcN := 47) (LN := [(4, (0, 5)), (3, (0, 1)), (0, (4, 0)), (1, (4, 1)), (2, (0, 0))]) (stN := [(0, 5), (4, 1), (1, 0)]) (hsN := jpA_1552) (c1 := 0) (s1 := 0) (c2 := 0) (s2 := 0) (by decide +kernel) ?_ (by omega) (by omega)
  refine jT_iald (x := 0) (a := 1) (j := 5) (fs := []) (X := (((((((((((((((List.replicate 1792 0)).set 0 0)).set 1 0)).set 2 0)).set 3 0)).set 4 0)).set 5 0)).set 6 1)) (by rfl) (by rfl) (by rfl) (by rfl) (by rw [List.getElem?_set_ne (by omega), List.getElem?_set_self (by simp only [List.length_set, List.length_replicate, List.length_cons, List.length_nil, jS0_len]; omega)]) ?_
  refine jT_eq (LN := [(4, (0, 5)), (3, (0, 1)), (0, (4, 0)), (1, (4, 1)), (2, (0, 0))]) (stN := [(0, 0), (1, 0)]) (hsN := jpA_1552) rfl rfl rfl ?_
  refine jT_advK 12 (pcN := 66) (LN := [(4, (0, 6)), (3, (0, 1)), (0, (4, 0)), (1, (4, 1)), (2, (0, 0))]) (stN := [(0, 1)]) (hsN := jpA_1552) (c1 := 0) (s1 := 0) (c2 := 0) (s2 := 0) (by decide +kernel) ?_ (by omega) (by omega)
  exact jT_ret rfl (by decide) (by show 16 ≤ 16; decide) (by omega) (by omega) ⟨rfl, rfl, rfl⟩
def jpA_1553 : List JC := [jzA_1543, jgh, jgh, jgh, jgh, jgh, jgh, (101, [], [0, 0, 0, 0, 0, 0]), jzA_1539, jgh, jgh, jgh, jgh, jgh, jgh, jgh, (101, [], [0, 0, 0, 0, 0, 0])]
theorem jA_239_351 {xs : List Int} {d : Nat} : jT xs (d + 3) 239 16 0 [(0, (4, 0))] [] jpA_1544 1 6 (fun k v hsN => k = 0 ∧ v = (9, 0) ∧ hsN = jpA_1544 ++ [(101, [], [0, 0, 0, 0, 0, 0])]) := by
  refine jT_advK 12 (pcN := 19) (LN := [(1, (0, 0)), (0, (4, 0))]) (stN := [(0, 0), (4, 8), (4, 0)]) (hsN := jpA_1544) (c1 := 0) (s1 := 0) (c2 := 1) (s2 := 6) (by decide +kernel) ?_ (by omega) (by omega)
  refine jT_fA [0, 8, 1, 2, 3, 4, 5, 6, 7, 9, 10, 11, 12, 13, 14, 15] 16 (y := 240) (pcN := 22) (dC := 2) (bc1 := 1) (bc2 := 6) (c1 := 0) (c2 := 0) (as := [(4, 0), (4, 8), (0, 0)]) (asC := [(4, 0), (4, 1), (0, 0)]) (LN := [(1, (0, 0)), (0, (4, 0))]) (stN := []) (hsC := jpA_1552) (ex := [(101, [], [0, 0, 0, 0, 0, 0])]) (v := (0, 0)) (st2 := [(0, 0)]) (hs2 := jpA_1553) (jA_240_349 (d := 0)) (by rfl) (by rfl) (by decide +kernel) (by rfl) (by rfl) (by omega) (by omega) (by omega) (by omega) rfl (by decide +kernel) ?_
  refine jT_advK 11 (pcN := 48) (LN := [(1, (0, 0)), (0, (4, 0))]) (stN := [(0, 0), (4, 8), (4, 0)]) (hsN := jpA_1553) (c1 := 0) (s1 := 0) (c2 := 0) (s2 := 0) (by decide +kernel) ?_ (by omega) (by omega)
  refine jT_fR [0, 8, 1, 2, 3, 4, 5, 6, 7, 9, 10, 11, 12, 13, 14, 15] 17 (y := 236) (pcN := 51) (dC := 0) (bc1 := 0) (bc2 := 0) (c1 := 0) (c2 := 0) (as := [(4, 0), (4, 8), (0, 0)]) (asC := [(4, 0), (4, 1), (0, 0)]) (LN := [(1, (0, 0)), (0, (4, 0))]) (stN := []) (hsC := jpA_1552) (v := (0, 1)) (st2 := [(0, 1)]) (jA_236_350 (d := 0)) (by rfl) (by rfl) (by decide +kernel) (by rfl) (by rfl) (by omega) (by omega) (by omega) (by omega) rfl ?_
  refine jT_advK 1 (pcN := 54) (LN := [(1, (0, 0)), (0, (4, 0))]) (stN := []) (hsN := jpA_1553) (c1 := 0) (s1 := 0) (c2 := 0) (s2 := 0) (by decide +kernel) ?_ (by omega) (by omega)
  exact jT_ret rfl (by decide) (by show 16 ≤ 17; decide) (by omega) (by omega) ⟨rfl, rfl, rfl⟩
def jpA_1554 : List JC := [jzA_1543, (100, [], jS0), (100, [], []), jzA_196, jzA_197, jgh, jgh, jgh, jgh, jgh, jgh, jgh, jgh, jgh, jgh, jgh, (100, [], (List.replicate 1613 0)), jgh, jgh, jgh, jgh, jgh, jgh, jgh]
def jpA_1555 : List JC := [jzA_1543, (100, [], jS0), (100, [], []), jzA_196, jzA_197, jgh, jgh, jgh, jgh, jgh, jgh, jgh, jgh, jgh, jgh, jgh, (100, [], jS0), jgh, jgh, jgh, jgh, jgh, jgh, jgh]
def jzA_1556 : JC := (14, [(0, 0), (4, 1), (4, 2), (4, 3), (4, 4), (0, 1), (4, 5), (0, 0), (4, 6), (4, 7), (1, 1), (4, 8), (0, 1), (4, 9), (0, 0), (0, 0), (0, 0), (0, 0), (0, 0), (0, 0), (0, 0), (4, 10), (4, 11), (4, 12), (4, 13), (4, 14), (4, 15), (0, 0)], [])
def jpA_1557 : List JC := [jzA_1556, (100, [], jS0), (100, [], []), jzA_196, jzA_201, jgh, jgh, jgh, jgh, jgh, jgh, jgh, jgh, jgh, jgh, jgh, (100, [], jS0), jgh, jgh, jgh, jgh, jgh, jgh, jgh]
theorem jA_195_352 {xs : List Int} {d : Nat} : jT xs d 195 24 0 [(0, (4, 0))] [] jpA_1554 0 0 (fun k v hsN => k = 0 ∧ v = (9, 0) ∧ hsN = jpA_1557) := by
  refine jT_advK 14 (pcN := 94) (LN := [(0, (4, 0))]) (stN := [(0, 1613), (0, 0), (4, 16), (0, 0), (4, 1)]) (hsN := jpA_1554) (c1 := 0) (s1 := 0) (c2 := 0) (s2 := 0) (by decide +kernel) ?_ (by omega) (by omega)
  refine jT_cpy (a := 1) (b := 16) (s0 := 0) (d0 := 0) (n := 1613) (k := 100) (X := jS0) (Y := (List.replicate 1613 0)) (by rfl) (by rfl) (by rfl) (by rfl) (by rfl) (by rfl) (by rfl) (by decide) (by decide) (by decide) (by rw [show List.length (jS0 : List Int) = 1613 from jS0_len]; decide) (by rw [show List.length ((List.replicate 1613 0) : List Int) = 1613 from List.length_replicate]; omega) ?_
  refine jT_eq (LN := [(0, (4, 0))]) (stN := []) (hsN := jpA_1555) rfl rfl (by rw [jcpy_all (X := jS0) (Y := (List.replicate 1613 0)) (n := 1613) (jS0_len) (List.length_replicate)]; rfl) ?_
  refine jT_advK 13 (pcN := 120) (LN := [(0, (4, 0))]) (stN := []) (hsN := jpA_1557) (c1 := 0) (s1 := 0) (c2 := 0) (s2 := 0) (by decide +kernel) ?_ (by omega) (by omega)
  exact jT_ret rfl (by decide) (by show 24 ≤ 24; decide) (by omega) (by omega) ⟨rfl, rfl, rfl⟩
def jpA_1558 : List JC := [jzA_1543, (100, [], jS0), (100, [], []), jzA_196, jzA_197, jgh, jgh, jgh, jzA_1539, jgh, jgh, jgh, jgh, jgh, jgh, jgh, (100, [], (List.replicate 1613 0)), jgh, jgh, jgh, jgh, jgh, jgh, jgh]
def jpA_1559 : List JC := [jzA_1556, (100, [], jS0), (100, [], []), jzA_196, jzA_201, jgh, jgh, jgh, jzA_1539, jgh, jgh, jgh, jgh, jgh, jgh, jgh, (100, [], jS0), jgh, jgh, jgh, jgh, jgh, jgh, jgh]
def jpA_1560 : List JC := [jzA_1556, (100, [], ((jS0).set 56 1)), (100, [], []), jzA_196, jzA_201, jgh, jgh, jgh, jzA_1539, jgh, jgh, jgh, jgh, jgh, jgh, jgh, (100, [], jS0), jgh, jgh, jgh, jgh, jgh, jgh, jgh]
def jzA_1561 : JC := (100, [], (jcpy (((((((((((((((List.replicate 1792 0)).set 0 0)).set 1 0)).set 2 0)).set 3 0)).set 4 0)).set 5 0)).set 6 1) ((jS0).set 56 1) 0 57 7))
def jpA_1562 : List JC := [jzA_1556, jzA_1561, (100, [], []), jzA_196, jzA_201, jgh, jgh, jgh, jzA_1539, jgh, jgh, jgh, jgh, jgh, jgh, jgh, (100, [], jS0), jgh, jgh, jgh, jgh, jgh, jgh, jgh]
theorem jA_241_353 {xs : List Int} {d : Nat} : jT xs (d + 1) 241 24 0 [(0, (4, 0)), (1, (0, 0))] [] jpA_1558 0 0 (fun k v hsN => k = 0 ∧ v = (0, 1) ∧ hsN = jpA_1562) := by
  refine jT_advK 1 (pcN := 1) (LN := [(0, (4, 0)), (1, (0, 0))]) (stN := [(4, 0)]) (hsN := jpA_1558) (c1 := 0) (s1 := 0) (c2 := 0) (s2 := 0) (by decide +kernel) ?_ (by omega) (by omega)
  refine jT_fB [0, 1, 2, 3, 4, 5, 6, 7, 8, 9, 10, 11, 12, 13, 14, 15, 16, 17, 18, 19, 20, 21, 22, 23] 24 (y := 195) (pcN := 4) (dC := 0) (bc1 := 0) (bc2 := 0) (c1 := 0) (c2 := 0) (as := [(4, 0)]) (asC := [(4, 0)]) (LN := [(0, (4, 0)), (1, (0, 0))]) (stN := []) (hsC := jpA_1554) (hsD := jpA_1557) (v := (9, 0)) (st2 := []) (hs2 := jpA_1559) (jA_195_352 (d := 0)) (by rfl) (by rfl) (by decide +kernel) (by rfl) (by rfl) (by omega) (by omega) (by omega) (by omega) rfl (by decide +kernel) ?_
  refine jT_advK 9 (pcN := 20) (LN := [(0, (4, 0)), (1, (0, 0))]) (stN := [(0, 1), (0, 56), (4, 1)]) (hsN := jpA_1559) (c1 := 0) (s1 := 0) (c2 := 0) (s2 := 0) (by decide +kernel) ?_ (by omega) (by omega)
  refine jT_iast (x := 1) (a := 1) (j := 56) (fs := []) (X := jS0) (by rfl) (by rfl) (by rfl) (by rfl) (by rw [show List.length (jS0 : List Int) = 1613 from jS0_len]; omega) ?_
  refine jT_eq (LN := [(0, (4, 0)), (1, (0, 0))]) (stN := []) (hsN := jpA_1560) rfl rfl rfl ?_
  refine jT_advK 7 (pcN := 32) (LN := [(0, (4, 0)), (1, (0, 0))]) (stN := [(0, 0), (0, 0), (4, 1), (0, 0), (4, 8)]) (hsN := jpA_1560) (c1 := 0) (s1 := 0) (c2 := 0) (s2 := 0) (by decide +kernel) ?_ (by omega) (by omega)
  refine jT_fR [] 24 (y := 242) (pcN := 35) (dC := 0) (bc1 := 0) (bc2 := 0) (c1 := 0) (c2 := 0) (as := [(0, 0), (0, 0)]) (asC := [(0, 0), (0, 0)]) (LN := [(0, (4, 0)), (1, (0, 0))]) (stN := [(4, 1), (0, 0), (4, 8)]) (hsC := []) (v := (0, 57)) (st2 := [(0, 57), (4, 1), (0, 0), (4, 8)]) (jA_242_340 (d := 0)) (by rfl) (by rfl) (by decide +kernel) (by rfl) (by rfl) (by omega) (by omega) (by omega) (by omega) rfl ?_
  refine jT_advK 4 (pcN := 42) (LN := [(0, (4, 0)), (1, (0, 0))]) (stN := [(0, 7), (0, 57), (4, 1), (0, 0), (4, 8)]) (hsN := jpA_1560) (c1 := 0) (s1 := 0) (c2 := 0) (s2 := 0) (by decide +kernel) ?_ (by omega) (by omega)
  refine jT_cpy (a := 8) (b := 1) (s0 := 0) (d0 := 57) (n := 7) (k := 100) (X := (((((((((((((((List.replicate 1792 0)).set 0 0)).set 1 0)).set 2 0)).set 3 0)).set 4 0)).set 5 0)).set 6 1)) (Y := ((jS0).set 56 1)) (by rfl) (by rfl) (by rfl) (by rfl) (by rfl) (by rfl) (by rfl) (by decide) (by decide) (by decide) (by rw [show List.length ((((((((((((((((List.replicate 1792 0)).set 0 0)).set 1 0)).set 2 0)).set 3 0)).set 4 0)).set 5 0)).set 6 1) : List Int) = 1792 from by rw [List.length_set, List.length_set, List.length_set, List.length_set, List.length_set, List.length_set, List.length_set]; exact (List.length_replicate)]; decide) (by rw [show List.length (((jS0).set 56 1) : List Int) = 1613 from by rw [List.length_set]; exact (jS0_len)]; omega) ?_
  refine jT_eq (LN := [(0, (4, 0)), (1, (0, 0))]) (stN := []) (hsN := jpA_1562) rfl rfl rfl ?_
  refine jT_advK 2 (pcN := 49) (LN := [(0, (4, 0)), (1, (0, 0))]) (stN := [(0, 1)]) (hsN := jpA_1562) (c1 := 0) (s1 := 0) (c2 := 0) (s2 := 0) (by decide +kernel) ?_ (by omega) (by omega)
  exact jT_ret rfl (by decide) (by show 24 ≤ 24; decide) (by omega) (by omega) ⟨rfl, rfl, rfl⟩
theorem jI_243_15 : jmI (jm 243) 15 = (.iconst 1, 1) := by rfl
theorem jI_243_16 : jmI (jm 243) 16 = (.goto 4, 3) := by rfl
theorem jI_243_28 : jmI (jm 243) 28 = (.aload_n 0, 1) := by rfl
theorem jI_243_29 : jmI (jm 243) 29 = (.iload_n 2, 1) := by rfl
theorem jI_243_33 : jmI (jm 243) 33 = (.aload_n 0, 1) := by rfl
def jpA_1568 : List JC := [jzA_21, (100, [], jS0), (100, [], []), jzA_196, jzA_197, jgh, (130, [], [24, 25, 26, 27, 28, 29]), (101, [], [0, 0, 0, 0, 0, 0]), (100, [], (List.replicate 1792 0)), jgh, jgh, jgh, jgh, jgh, jgh, jgh, (100, [], (List.replicate 1613 0)), jgh, jgh, jgh, jgh, jgh, jgh, jgh, (100, [], (jenc (jlg 0))), jgh, jgh, jgh, jgh, jgh, (101, [], [0, 0, 0, 0, 0, 0]), (101, [], [(-1), 0, 0, 0, 0, 0]), (100, [], (jenc 0)), (100, [], (jenc (-1))), (100, [], (jenc ((-1) * (jlg 0))))]
theorem jI_243_37 : jmI (jm 243) 37 = (.lstore 4, 2) := by rfl
theorem jI_243_39 : jmI (jm 243) 39 = (.aload_n 0, 1) := by rfl
theorem jI_243_40 : jmI (jm 243) 40 = (.iload_n 1, 1) := by rfl
theorem jI_243_44 : jmI (jm 243) 44 = (.istore 6, 2) := by rfl
theorem jI_243_46 : jmI (jm 243) 46 = (.iload_n 3, 1) := by rfl
theorem jI_243_47 : jmI (jm 243) 47 = (.ifCond .eq 26, 3) := by rfl
theorem jI_243_50 : jmI (jm 243) 50 = (.iload 6, 2) := by rfl
theorem jI_243_52 : jmI (jm 243) 52 = (.ifCond .ne 13, 3) := by rfl
theorem jI_243_65 : jmI (jm 243) 65 = (.iconst 1, 1) := by rfl
theorem jI_243_66 : jmI (jm 243) 66 = (.goto 26, 3) := by rfl
theorem jI_243_92 : jmI (jm 243) 92 = (.istore 7, 2) := by rfl
theorem jI_243_94 : jmI (jm 243) 94 = (.aload_n 0, 1) := by rfl
theorem jI_243_95 : jmI (jm 243) 95 = (.iload 7, 2) := by rfl
theorem jI_243_97 : jmI (jm 243) 97 = (.iconst 2, 1) := by rfl
theorem jI_243_101 : jmI (jm 243) 101 = (.ifCond .ne 36, 3) := by rfl
theorem jI_243_104 : jmI (jm 243) 104 = (.aload_n 0, 1) := by rfl
theorem jI_243_105 : jmI (jm 243) 105 = (.iload_n 3, 1) := by rfl
theorem jI_243_106 : jmI (jm 243) 106 = (.ifCond .eq 19, 3) := by rfl
theorem jI_243_109 : jmI (jm 243) 109 = (.aload_n 0, 1) := by rfl
theorem jI_243_113 : jmI (jm 243) 113 = (.ifCond .eq 16, 3) := by rfl
theorem jI_243_116 : jmI (jm 243) 116 = (.lload 4, 2) := by rfl
theorem jI_243_122 : jmI (jm 243) 122 = (.ifCond .lt 7, 3) := by rfl
theorem jI_243_125 : jmI (jm 243) 125 = (.iconst 1, 1) := by rfl
theorem jI_243_126 : jmI (jm 243) 126 = (.goto 4, 3) := by rfl
theorem jI_243_130 : jmI (jm 243) 130 = (.iconst 3, 1) := by rfl
theorem jI_243_134 : jmI (jm 243) 134 = (.ifCond .eq 5, 3) := by rfl
theorem jI_243_139 : jmI (jm 243) 139 = (.bipush 7, 2) := by rfl
def jpA_1596 : List JC := [jzA_21, (100, [], jS0), (100, [], []), jzA_196, jzA_197, jgh, (130, [], [24, 25, 26, 27, 28, 29]), (101, [], [0, 0, 0, 0, 0, 0]), (100, [], (List.replicate 1792 0)), jgh, jgh, jgh, jgh, jgh, jgh, jgh, (100, [], (List.replicate 1613 0)), jgh, jgh, jgh, jgh, jgh, jgh, jgh, (100, [], (jenc (jlg 0))), jgh, jgh, jgh, jgh, jgh, (101, [], [0, 0, 0, 0, 0, 0]), (101, [], [(-1), 0, 0, 0, 0, 0]), (100, [], (jenc 0)), (100, [], (jenc (-1))), (100, [], (jenc ((-1) * (jlg 0)))), (100, [], [0, 0, 0, 0, 0, 0, 0])]
theorem jI_243_143 : jmI (jm 243) 143 = (.astore 8, 2) := by rfl
theorem jI_243_145 : jmI (jm 243) 145 = (.aload_n 0, 1) := by rfl
theorem jI_243_146 : jmI (jm 243) 146 = (.aload 8, 2) := by rfl
theorem jI_243_148 : jmI (jm 243) 148 = (.iconst 0, 1) := by rfl
def jpA_1601 : List JC := [jzA_21, (100, [], jS0), (100, [], []), jzA_196, jzA_197, jgh, (130, [], [24, 25, 26, 27, 28, 29]), (101, [], [0, 0, 0, 0, 0, 0]), (100, [], (List.replicate 1792 0)), jgh, jgh, jgh, jgh, jgh, jgh, jgh, (100, [], (List.replicate 1613 0)), jgh, jgh, jgh, jgh, jgh, jgh, jgh, (100, [], (jenc (jlg 0))), jgh, jgh, jgh, jgh, jgh, (101, [], [0, 0, 0, 0, 0, 0]), (101, [], [(-1), 0, 0, 0, 0, 0]), (100, [], (jenc 0)), (100, [], (jenc (-1))), (100, [], (jenc ((-1) * (jlg 0)))), (100, [], [0, 0, 0, 0, 0, 0, 1])]
theorem jI_243_152 : jmI (jm 243) 152 = (.aload_n 0, 1) := by rfl
theorem jI_243_153 : jmI (jm 243) 153 = (.iconst 0, 1) := by rfl
theorem jI_243_157 : jmI (jm 243) 157 = (.iconst 0, 1) := by rfl
theorem jI_243_158 : jmI (jm 243) 158 = (.istore 9, 2) := by rfl
theorem jI_243_160 : jmI (jm 243) 160 = (.iload 9, 2) := by rfl
theorem jI_243_162 : jmI (jm 243) 162 = (.aload_n 0, 1) := by rfl
theorem jI_243_163 : jmI (jm 243) 163 = (.iload_n 1, 1) := by rfl
theorem jI_243_167 : jmI (jm 243) 167 = (.if_icmp .ge 41, 3) := by rfl
theorem jI_243_170 : jmI (jm 243) 170 = (.aload_n 0, 1) := by rfl
theorem jI_243_171 : jmI (jm 243) 171 = (.aload_n 0, 1) := by rfl
theorem jI_243_172 : jmI (jm 243) 172 = (.getfield 9, 3) := by rfl
theorem jI_243_175 : jmI (jm 243) 175 = (.iload_n 1, 1) := by rfl
theorem jI_243_176 : jmI (jm 243) 176 = (.iload 9, 2) := by rfl
theorem jI_243_184 : jmI (jm 243) 184 = (.iload_n 3, 1) := by rfl
theorem jI_243_185 : jmI (jm 243) 185 = (.ifCond .ne 13, 3) := by rfl
theorem jI_243_198 : jmI (jm 243) 198 = (.aload_n 0, 1) := by rfl
def jpA_1618 : List JC := [jzA_1543, (100, [], jS0), (100, [], []), jzA_196, jzA_197, jgh, (130, [], [24, 25, 26, 27, 28, 29]), (101, [], [0, 0, 0, 0, 0, 0]), jzA_1539, jgh, jgh, jgh, jgh, jgh, jgh, jgh, (100, [], (List.replicate 1613 0)), jgh, jgh, jgh, jgh, jgh, jgh, jgh, (100, [], (jenc (jlg 0))), jgh, jgh, jgh, jgh, jgh, (101, [], [0, 0, 0, 0, 0, 0]), (101, [], [(-1), 0, 0, 0, 0, 0]), (100, [], (jenc 0)), (100, [], (jenc (-1))), (100, [], (jenc ((-1) * (jlg 0)))), (100, [], [0, 0, 0, 0, 0, 0, 1])]
theorem jI_243_202 : jmI (jm 243) 202 = (.iinc 9 1, 3) := by rfl
theorem jI_243_205 : jmI (jm 243) 205 = (.goto (-45), 3) := by rfl
theorem jI_243_208 : jmI (jm 243) 208 = (.aload_n 0, 1) := by rfl
theorem jI_243_209 : jmI (jm 243) 209 = (.aload 8, 2) := by rfl
theorem jI_243_211 : jmI (jm 243) 211 = (.iconst 0, 1) := by rfl
theorem jI_243_215 : jmI (jm 243) 215 = (.iload_n 3, 1) := by rfl
theorem jI_243_216 : jmI (jm 243) 216 = (.ifCond .eq 7, 3) := by rfl
theorem jI_243_219 : jmI (jm 243) 219 = (.aload_n 0, 1) := by rfl
def jpA_1627 : List JC := [jzA_1543, (100, [], jS0), (100, [], []), jzA_196, jzA_197, jgh, (130, [], [24, 25, 26, 27, 28, 29]), (101, [], [0, 0, 0, 0, 0, 0]), jzA_1539, jgh, jgh, jgh, jgh, jgh, jgh, jgh, (100, [], (List.replicate 1613 0)), jgh, jgh, jgh, jgh, jgh, jgh, jgh, (100, [], (jenc (jlg 0))), jgh, jgh, jgh, jgh, jgh, (101, [], [0, 0, 0, 0, 0, 0]), (101, [], [(-1), 0, 0, 0, 0, 0]), (100, [], (jenc 0)), (100, [], (jenc (-1))), (100, [], (jenc ((-1) * (jlg 0)))), (100, [], [0, 0, 0, 0, 0, 0, 1]), (101, [], [0, 0, 0, 0, 0, 0])]
theorem jI_243_223 : jmI (jm 243) 223 = (.aload_n 0, 1) := by rfl
theorem jI_243_224 : jmI (jm 243) 224 = (.iload_n 1, 1) := by rfl
def jpA_1630 : List JC := [jzA_1556, jzA_1561, (100, [], []), jzA_196, jzA_201, jgh, (130, [], [24, 25, 26, 27, 28, 29]), (101, [], [0, 0, 0, 0, 0, 0]), jzA_1539, jgh, jgh, jgh, jgh, jgh, jgh, jgh, (100, [], jS0), jgh, jgh, jgh, jgh, jgh, jgh, jgh, (100, [], (jenc (jlg 0))), jgh, jgh, jgh, jgh, jgh, (101, [], [0, 0, 0, 0, 0, 0]), (101, [], [(-1), 0, 0, 0, 0, 0]), (100, [], (jenc 0)), (100, [], (jenc (-1))), (100, [], (jenc ((-1) * (jlg 0)))), (100, [], [0, 0, 0, 0, 0, 0, 1]), (101, [], [0, 0, 0, 0, 0, 0])]
theorem jI_243_229 : jmI (jm 243) 229 = (.iload 6, 2) := by rfl
def jpA_1632 : List JC := [jzA_21, (100, [], jS0), (100, [], []), jzA_196, jzA_197, jgh, (130, [], [24, 25, 26, 27, 28, 29]), (101, [], [0, 0, 0, 0, 0, 0]), (100, [], (List.replicate 1792 0)), jgh, jgh, jgh, jgh, jgh, jgh, jgh, (100, [], (List.replicate 1613 0)), jgh, jgh, jgh, jgh, jgh, jgh, jgh, (100, [], (jenc (jlg 0))), jgh, jgh, jgh, jgh, jgh]
theorem jA_243_354 {xs : List Int} {d : Nat} {x2 : Int} (h_x2 : 0 ≤ x2 ∧ x2 ≤ 7) : jT xs (d + 7) 243 30 0 [(0, (4, 0)), (1, (0, 0)), (2, (0, x2)), (3, (0, 1))] [] jpA_1632 7 193 (fun k v hsN => k = 0 ∧ v = (0, 1) ∧ hsN = jpA_1630) := by
  refine jT_xaload_n (v := (4, 0)) (pcN := 1) jI_243_0 rfl rfl rfl ?_
  refine jT_xiload_n (v := (0, 0)) (pcN := 2) jI_243_1 rfl rfl rfl ?_
  refine jT_fR [] 30 (y := 238) (pcN := 5) (dC := 1) (bc1 := 0) (bc2 := 0) (c1 := 7) (c2 := 193) (as := [(0, 0)]) (asC := [(0, 0)]) (LN := [(0, (4, 0)), (1, (0, 0)), (2, (0, x2)), (3, (0, 1))]) (stN := [(4, 0)]) (hsC := []) (v := (0, 1)) (st2 := [(0, 1), (4, 0)]) (jA_238_338 (d := 0)) (by rfl) (by rfl) (by decide +kernel) (by rfl) (by rfl) (by omega) (by omega) (by omega) (by omega) rfl ?_
  refine jT_xifF (t := 19) (pcN := 8) jI_243_5 rfl (by decide +kernel) rfl rfl ?_
  refine jT_xiload_n (v := (0, x2)) (pcN := 9) jI_243_8 rfl rfl rfl ?_
  refine jT_fR [] 30 (y := 188) (pcN := 12) (dC := 1) (bc1 := 0) (bc2 := 0) (c1 := 7) (c2 := 193) (as := [(0, x2)]) (asC := [(0, x2)]) (LN := [(0, (4, 0)), (1, (0, 0)), (2, (0, x2)), (3, (0, 1))]) (stN := [(4, 0)]) (hsC := []) (v := (0, 1)) (st2 := [(0, 1), (4, 0)]) (jA_188_20 (d := 0) (by omega)) (by rfl) (by rfl) (by decide +kernel) (by rfl) (by rfl) (by omega) (by omega) (by omega) (by omega) rfl ?_
  refine jT_xifF (t := 19) (pcN := 15) jI_243_12 rfl (by decide +kernel) rfl rfl ?_
  refine jT_xiconst (k := 1) (pcN := 16) jI_243_15 rfl ?_
  refine jT_xgoto (pcN := 20) jI_243_16 rfl ?_
  refine jT_fR [0, 1, 2, 3, 4, 5, 6, 7, 8, 9, 10, 11, 12, 13, 14, 15] 30 (y := 190) (pcN := 23) (dC := 1) (bc1 := 0) (bc2 := 0) (c1 := 7) (c2 := 193) (as := [(4, 0), (0, 1)]) (asC := [(4, 0), (0, 1)]) (LN := [(0, (4, 0)), (1, (0, 0)), (2, (0, x2)), (3, (0, 1))]) (stN := []) (hsC := jpA_22) (v := (0, 0)) (st2 := [(0, 0)]) (jA_190_39 (d := 0)) (by rfl) (by rfl) (by decide +kernel) (by rfl) (by rfl) (by omega) (by omega) (by omega) (by omega) rfl ?_
  refine jT_xifT (pcN := 28) jI_243_23 rfl (by decide +kernel) rfl ?_
  refine jT_xaload_n (v := (4, 0)) (pcN := 29) jI_243_28 rfl rfl rfl ?_
  refine jT_xiload_n (v := (0, x2)) (pcN := 30) jI_243_29 rfl rfl rfl ?_
  refine jT_fR [0, 1, 2, 3, 4, 5, 6, 7, 8, 9, 10, 11, 12, 13, 14, 15] 30 (y := 202) (pcN := 33) (dC := 1) (bc1 := 0) (bc2 := 0) (c1 := 7) (c2 := 193) (as := [(4, 0), (0, x2)]) (asC := [(4, 0), (0, x2)]) (LN := [(0, (4, 0)), (1, (0, 0)), (2, (0, x2)), (3, (0, 1))]) (stN := []) (hsC := jpA_130) (v := (9, 0)) (st2 := []) (jA_202_41 (d := 0) (by omega)) (by rfl) (by rfl) (by decide +kernel) (by rfl) (by rfl) (by omega) (by omega) (by omega) (by omega) rfl ?_
  refine jT_xaload_n (v := (4, 0)) (pcN := 34) jI_243_33 rfl rfl rfl ?_
  refine jT_fA [0, 1, 2, 3, 4, 5, 6, 7, 8, 9, 10, 11, 12, 13, 14, 15, 24, 25, 26, 27, 28, 29] 30 (y := 209) (pcN := 37) (dC := 6) (bc1 := 5) (bc2 := 180) (c1 := 2) (c2 := 13) (as := [(4, 0)]) (asC := [(4, 0)]) (LN := [(0, (4, 0)), (1, (0, 0)), (2, (0, x2)), (3, (0, 1))]) (stN := []) (hsC := jpA_684) (ex := jpA_683) (v := (1, 0)) (st2 := [(1, 0)]) (hs2 := jpA_1568) (jA_209_159 (d := 0)) (by rfl) (by rfl) (by decide +kernel) (by rfl) (by rfl) (by omega) (by omega) (by omega) (by omega) rfl (by decide +kernel) ?_
  refine jT_xlstore (v := (1, 0)) (LN := [(4, (1, 0)), (0, (4, 0)), (1, (0, 0)), (2, (0, x2)), (3, (0, 1))]) (pcN := 39) jI_243_37 rfl rfl rfl rfl ?_
  refine jT_xaload_n (v := (4, 0)) (pcN := 40) jI_243_39 rfl rfl rfl ?_
  refine jT_xiload_n (v := (0, 0)) (pcN := 41) jI_243_40 rfl rfl rfl ?_
  refine jT_fR [0, 1, 2, 3, 4, 5, 6, 7, 8, 9, 10, 11, 12, 13, 14, 15] 35 (y := 244) (pcN := 44) (dC := 1) (bc1 := 0) (bc2 := 0) (c1 := 2) (c2 := 13) (as := [(4, 0), (0, 0)]) (asC := [(4, 0), (0, 0)]) (LN := [(4, (1, 0)), (0, (4, 0)), (1, (0, 0)), (2, (0, x2)), (3, (0, 1))]) (stN := []) (hsC := jpA_130) (v := (0, 1)) (st2 := [(0, 1)]) (jA_244_342 (d := 0)) (by rfl) (by rfl) (by decide +kernel) (by rfl) (by rfl) (by omega) (by omega) (by omega) (by omega) rfl ?_
  refine jT_xistore (v := (0, 1)) (LN := [(6, (0, 1)), (4, (1, 0)), (0, (4, 0)), (1, (0, 0)), (2, (0, x2)), (3, (0, 1))]) (pcN := 46) jI_243_44 rfl rfl rfl rfl ?_
  refine jT_xiload_n (v := (0, 1)) (pcN := 47) jI_243_46 rfl rfl rfl ?_
  refine jT_xifF (t := 73) (pcN := 50) jI_243_47 rfl (by decide +kernel) rfl rfl ?_
  refine jT_xiload (v := (0, 1)) (pcN := 52) jI_243_50 rfl rfl rfl ?_
  refine jT_xifT (pcN := 65) jI_243_52 rfl (by decide +kernel) rfl ?_
  refine jT_xiconst (k := 1) (pcN := 66) jI_243_65 rfl ?_
  refine jT_xgoto (pcN := 92) jI_243_66 rfl ?_
  refine jT_xistore (v := (0, 1)) (LN := [(7, (0, 1)), (6, (0, 1)), (4, (1, 0)), (0, (4, 0)), (1, (0, 0)), (2, (0, x2)), (3, (0, 1))]) (pcN := 94) jI_243_92 rfl rfl rfl rfl ?_
  refine jT_xaload_n (v := (4, 0)) (pcN := 95) jI_243_94 rfl rfl rfl ?_
  refine jT_xiload (v := (0, 1)) (pcN := 97) jI_243_95 rfl rfl rfl ?_
  refine jT_xiconst (k := 2) (pcN := 98) jI_243_97 rfl ?_
  refine jT_fR [0] 35 (y := 191) (pcN := 101) (dC := 0) (bc1 := 0) (bc2 := 0) (c1 := 2) (c2 := 13) (as := [(4, 0), (0, 1), (0, 2)]) (asC := [(4, 0), (0, 1), (0, 2)]) (LN := [(7, (0, 1)), (6, (0, 1)), (4, (1, 0)), (0, (4, 0)), (1, (0, 0)), (2, (0, x2)), (3, (0, 1))]) (stN := []) (hsC := [jgh]) (v := (0, 0)) (st2 := [(0, 0)]) (jA_191_49 (d := 0)) (by rfl) (by rfl) (by decide +kernel) (by rfl) (by rfl) (by omega) (by omega) (by omega) (by omega) rfl ?_
  refine jT_xifF (t := 137) (pcN := 104) jI_243_101 rfl (by decide +kernel) rfl rfl ?_
  refine jT_xaload_n (v := (4, 0)) (pcN := 105) jI_243_104 rfl rfl rfl ?_
  refine jT_xiload_n (v := (0, 1)) (pcN := 106) jI_243_105 rfl rfl rfl ?_
  refine jT_xifF (t := 125) (pcN := 109) jI_243_106 rfl (by decide +kernel) rfl rfl ?_
  refine jT_xaload_n (v := (4, 0)) (pcN := 110) jI_243_109 rfl rfl rfl ?_
  refine jT_fR [0, 1, 2, 3, 4, 5, 6, 7, 8, 9, 10, 11, 12, 13, 14, 15] 35 (y := 205) (pcN := 113) (dC := 1) (bc1 := 0) (bc2 := 0) (c1 := 2) (c2 := 13) (as := [(4, 0)]) (asC := [(4, 0)]) (LN := [(7, (0, 1)), (6, (0, 1)), (4, (1, 0)), (0, (4, 0)), (1, (0, 0)), (2, (0, x2)), (3, (0, 1))]) (stN := [(4, 0)]) (hsC := jpA_147) (v := (0, 1)) (st2 := [(0, 1), (4, 0)]) (jA_205_48 (d := 0)) (by rfl) (by rfl) (by decide +kernel) (by rfl) (by rfl) (by omega) (by omega) (by omega) (by omega) rfl ?_
  refine jT_xifF (t := 129) (pcN := 116) jI_243_113 rfl (by decide +kernel) rfl rfl ?_
  refine jT_xlload (v := (1, 0)) (pcN := 118) jI_243_116 rfl rfl rfl ?_
  refine jT_adv 1 (pcN := 121) (LN := [(7, (0, 1)), (6, (0, 1)), (4, (1, 0)), (0, (4, 0)), (1, (0, 0)), (2, (0, x2)), (3, (0, 1))]) (stN := [(1, (-2147483648)), (1, 0), (4, 0)]) (hsN := jpA_1568) (c1 := 0) (s1 := 0) (c2 := 2) (s2 := 13) (by exact rfl) ?_ (by omega) (by omega)
  refine jT_lcmp (a := 0) (b := (-2147483648)) (z := 1) (by rfl) (by rfl) (by decide +kernel) (by decide +kernel) (by decide) ?_
  refine jT_xifF (t := 129) (pcN := 125) jI_243_122 rfl (by decide +kernel) rfl rfl ?_
  refine jT_xiconst (k := 1) (pcN := 126) jI_243_125 rfl ?_
  refine jT_xgoto (pcN := 130) jI_243_126 rfl ?_
  refine jT_xiconst (k := 3) (pcN := 131) jI_243_130 rfl ?_
  refine jT_fR [0] 35 (y := 191) (pcN := 134) (dC := 0) (bc1 := 0) (bc2 := 0) (c1 := 2) (c2 := 13) (as := [(4, 0), (0, 1), (0, 3)]) (asC := [(4, 0), (0, 1), (0, 3)]) (LN := [(7, (0, 1)), (6, (0, 1)), (4, (1, 0)), (0, (4, 0)), (1, (0, 0)), (2, (0, x2)), (3, (0, 1))]) (stN := []) (hsC := [jgh]) (v := (0, 0)) (st2 := [(0, 0)]) (jA_191_117 (d := 0)) (by rfl) (by rfl) (by decide +kernel) (by rfl) (by rfl) (by omega) (by omega) (by omega) (by omega) rfl ?_
  refine jT_xifT (pcN := 139) jI_243_134 rfl (by decide +kernel) rfl ?_
  refine jT_xbipush (k := 7) (pcN := 141) jI_243_139 (by decide) rfl ?_
  refine jT_adv 1 (pcN := 143) (LN := [(7, (0, 1)), (6, (0, 1)), (4, (1, 0)), (0, (4, 0)), (1, (0, 0)), (2, (0, x2)), (3, (0, 1))]) (stN := [(4, 35)]) (hsN := jpA_1596) (c1 := 1) (s1 := 7) (c2 := 1) (s2 := 6) (by exact rfl) ?_ (by omega) (by omega)
  refine jT_xastore (v := (4, 35)) (LN := [(8, (4, 35)), (7, (0, 1)), (6, (0, 1)), (4, (1, 0)), (0, (4, 0)), (1, (0, 0)), (2, (0, x2)), (3, (0, 1))]) (pcN := 145) jI_243_143 rfl rfl rfl rfl ?_
  refine jT_xaload_n (v := (4, 0)) (pcN := 146) jI_243_145 rfl rfl rfl ?_
  refine jT_xaload (v := (4, 35)) (pcN := 148) jI_243_146 rfl rfl rfl ?_
  refine jT_xiconst (k := 0) (pcN := 149) jI_243_148 rfl ?_
  refine jT_fB [0, 35, 1, 2, 3, 4, 5, 6, 7, 8, 9, 10, 11, 12, 13, 14, 15] 36 (y := 197) (pcN := 152) (dC := 0) (bc1 := 0) (bc2 := 0) (c1 := 1) (c2 := 6) (as := [(4, 0), (4, 35), (0, 0)]) (asC := [(4, 0), (4, 1), (0, 0)]) (LN := [(8, (4, 35)), (7, (0, 1)), (6, (0, 1)), (4, (1, 0)), (0, (4, 0)), (1, (0, 0)), (2, (0, x2)), (3, (0, 1))]) (stN := []) (hsC := jpA_1524) (hsD := jpA_1523) (v := (9, 0)) (st2 := []) (hs2 := jpA_1601) (jA_197_343 (d := 0)) (by rfl) (by rfl) (by decide +kernel) (by rfl) (by rfl) (by omega) (by omega) (by omega) (by omega) rfl (by decide +kernel) ?_
  refine jT_xaload_n (v := (4, 0)) (pcN := 153) jI_243_152 rfl rfl rfl ?_
  refine jT_xiconst (k := 0) (pcN := 154) jI_243_153 rfl ?_
  refine jT_adv 1 (pcN := 157) (LN := [(8, (4, 35)), (7, (0, 1)), (6, (0, 1)), (4, (1, 0)), (0, (4, 0)), (1, (0, 0)), (2, (0, x2)), (3, (0, 1))]) (stN := []) (hsN := jpA_1601) (c1 := 0) (s1 := 0) (c2 := 1) (s2 := 6) (by exact rfl) ?_ (by omega) (by omega)
  refine jT_xiconst (k := 0) (pcN := 158) jI_243_157 rfl ?_
  refine jT_xistore (v := (0, 0)) (LN := [(9, (0, 0)), (8, (4, 35)), (7, (0, 1)), (6, (0, 1)), (4, (1, 0)), (0, (4, 0)), (1, (0, 0)), (2, (0, x2)), (3, (0, 1))]) (pcN := 160) jI_243_158 rfl rfl rfl rfl ?_
  refine jT_xiload (v := (0, 0)) (pcN := 162) jI_243_160 rfl rfl rfl ?_
  refine jT_xaload_n (v := (4, 0)) (pcN := 163) jI_243_162 rfl rfl rfl ?_
  refine jT_xiload_n (v := (0, 0)) (pcN := 164) jI_243_163 rfl rfl rfl ?_
  refine jT_fR [0, 1, 2, 3, 4, 5, 6, 7, 8, 9, 10, 11, 12, 13, 14, 15] 36 (y := 245) (pcN := 167) (dC := 0) (bc1 := 0) (bc2 := 0) (c1 := 1) (c2 := 6) (as := [(4, 0), (0, 0)]) (asC := [(4, 0), (0, 0)]) (LN := [(9, (0, 0)), (8, (4, 35)), (7, (0, 1)), (6, (0, 1)), (4, (1, 0)), (0, (4, 0)), (1, (0, 0)), (2, (0, x2)), (3, (0, 1))]) (stN := [(0, 0)]) (hsC := jpA_1519) (v := (0, 1)) (st2 := [(0, 1), (0, 0)]) (jA_245_339 (d := 0)) (by rfl) (by rfl) (by decide +kernel) (by rfl) (by rfl) (by omega) (by omega) (by omega) (by omega) rfl ?_
  refine jT_xicF (t := 208) (pcN := 170) jI_243_167 rfl (by decide +kernel) rfl rfl ?_
  refine jT_xaload_n (v := (4, 0)) (pcN := 171) jI_243_170 rfl rfl rfl ?_
  refine jT_xaload_n (v := (4, 0)) (pcN := 172) jI_243_171 rfl rfl rfl ?_
  refine jT_xgetf (a := 0) (t := 1) (ci := 14) (fi := 1) (c := jzA_21) (v := (4, 1)) (pcN := 175) jI_243_172 rfl rfl rfl rfl rfl rfl rfl ?_
  refine jT_xiload_n (v := (0, 0)) (pcN := 176) jI_243_175 rfl rfl rfl ?_
  refine jT_xiload (v := (0, 0)) (pcN := 178) jI_243_176 rfl rfl rfl ?_
  refine jT_fR [] 36 (y := 242) (pcN := 181) (dC := 0) (bc1 := 0) (bc2 := 0) (c1 := 1) (c2 := 6) (as := [(0, 0), (0, 0)]) (asC := [(0, 0), (0, 0)]) (LN := [(9, (0, 0)), (8, (4, 35)), (7, (0, 1)), (6, (0, 1)), (4, (1, 0)), (0, (4, 0)), (1, (0, 0)), (2, (0, x2)), (3, (0, 1))]) (stN := [(4, 1), (4, 0)]) (hsC := []) (v := (0, 57)) (st2 := [(0, 57), (4, 1), (4, 0)]) (jA_242_340 (d := 0)) (by rfl) (by rfl) (by decide +kernel) (by rfl) (by rfl) (by omega) (by omega) (by omega) (by omega) rfl ?_
  refine jT_fR [0, 1, 2, 3, 4, 5, 6, 7, 8, 9, 10, 11, 12, 13, 14, 15] 36 (y := 203) (pcN := 184) (dC := 0) (bc1 := 0) (bc2 := 0) (c1 := 1) (c2 := 6) (as := [(4, 0), (4, 1), (0, 57)]) (asC := [(4, 0), (4, 1), (0, 57)]) (LN := [(9, (0, 0)), (8, (4, 35)), (7, (0, 1)), (6, (0, 1)), (4, (1, 0)), (0, (4, 0)), (1, (0, 0)), (2, (0, x2)), (3, (0, 1))]) (stN := []) (hsC := jpA_130) (v := (9, 0)) (st2 := []) (jA_203_344 (d := 0)) (by rfl) (by rfl) (by decide +kernel) (by rfl) (by rfl) (by omega) (by omega) (by omega) (by omega) rfl ?_
  refine jT_xiload_n (v := (0, 1)) (pcN := 185) jI_243_184 rfl rfl rfl ?_
  refine jT_xifT (pcN := 198) jI_243_185 rfl (by decide +kernel) rfl ?_
  refine jT_xaload_n (v := (4, 0)) (pcN := 199) jI_243_198 rfl rfl rfl ?_
  refine jT_fB [0, 1, 2, 3, 4, 5, 6, 7, 8, 9, 10, 11, 12, 13, 14, 15] 36 (y := 239) (pcN := 202) (dC := 1) (bc1 := 0) (bc2 := 0) (c1 := 1) (c2 := 6) (as := [(4, 0)]) (asC := [(4, 0)]) (LN := [(9, (0, 0)), (8, (4, 35)), (7, (0, 1)), (6, (0, 1)), (4, (1, 0)), (0, (4, 0)), (1, (0, 0)), (2, (0, x2)), (3, (0, 1))]) (stN := []) (hsC := jpA_1541) (hsD := jpA_1544) (v := (9, 0)) (st2 := []) (hs2 := jpA_1618) (jA_239_346 (d := 0)) (by rfl) (by rfl) (by decide +kernel) (by rfl) (by rfl) (by omega) (by omega) (by omega) (by omega) rfl (by decide +kernel) ?_
  refine jT_xiinc (x := 0) (z := 1) (LN := [(9, (0, 1)), (8, (4, 35)), (7, (0, 1)), (6, (0, 1)), (4, (1, 0)), (0, (4, 0)), (1, (0, 0)), (2, (0, x2)), (3, (0, 1))]) (pcN := 205) jI_243_202 rfl rfl (by decide) rfl rfl ?_
  refine jT_xgoto (pcN := 160) jI_243_205 rfl ?_
  refine jT_xiload (v := (0, 1)) (pcN := 162) jI_243_160 rfl rfl rfl ?_
  refine jT_xaload_n (v := (4, 0)) (pcN := 163) jI_243_162 rfl rfl rfl ?_
  refine jT_xiload_n (v := (0, 0)) (pcN := 164) jI_243_163 rfl rfl rfl ?_
  refine jT_fR [0, 1, 2, 3, 4, 5, 6, 7, 8, 9, 10, 11, 12, 13, 14, 15] 36 (y := 245) (pcN := 167) (dC := 0) (bc1 := 0) (bc2 := 0) (c1 := 1) (c2 := 6) (as := [(4, 0), (0, 0)]) (asC := [(4, 0), (0, 0)]) (LN := [(9, (0, 1)), (8, (4, 35)), (7, (0, 1)), (6, (0, 1)), (4, (1, 0)), (0, (4, 0)), (1, (0, 0)), (2, (0, x2)), (3, (0, 1))]) (stN := [(0, 1)]) (hsC := jpA_1545) (v := (0, 1)) (st2 := [(0, 1), (0, 1)]) (jA_245_347 (d := 0)) (by rfl) (by rfl) (by decide +kernel) (by rfl) (by rfl) (by omega) (by omega) (by omega) (by omega) rfl ?_
  refine jT_xicT (pcN := 208) jI_243_167 rfl (by decide +kernel) rfl ?_
  refine jT_xaload_n (v := (4, 0)) (pcN := 209) jI_243_208 rfl rfl rfl ?_
  refine jT_xaload (v := (4, 35)) (pcN := 211) jI_243_209 rfl rfl rfl ?_
  refine jT_xiconst (k := 0) (pcN := 212) jI_243_211 rfl ?_
  refine jT_fR [0, 35, 1, 2, 3, 4, 5, 6, 7, 8, 9, 10, 11, 12, 13, 14, 15] 36 (y := 203) (pcN := 215) (dC := 0) (bc1 := 0) (bc2 := 0) (c1 := 1) (c2 := 6) (as := [(4, 0), (4, 35), (0, 0)]) (asC := [(4, 0), (4, 1), (0, 0)]) (LN := [(9, (0, 1)), (8, (4, 35)), (7, (0, 1)), (6, (0, 1)), (4, (1, 0)), (0, (4, 0)), (1, (0, 0)), (2, (0, x2)), (3, (0, 1))]) (stN := []) (hsC := jpA_1547) (v := (9, 0)) (st2 := []) (jA_203_348 (d := 0)) (by rfl) (by rfl) (by decide +kernel) (by rfl) (by rfl) (by omega) (by omega) (by omega) (by omega) rfl ?_
  refine jT_xiload_n (v := (0, 1)) (pcN := 216) jI_243_215 rfl rfl rfl ?_
  refine jT_xifF (t := 223) (pcN := 219) jI_243_216 rfl (by decide +kernel) rfl rfl ?_
  refine jT_xaload_n (v := (4, 0)) (pcN := 220) jI_243_219 rfl rfl rfl ?_
  refine jT_fA [0, 1, 2, 3, 4, 5, 6, 7, 8, 9, 10, 11, 12, 13, 14, 15] 36 (y := 239) (pcN := 223) (dC := 3) (bc1 := 1) (bc2 := 6) (c1 := 0) (c2 := 0) (as := [(4, 0)]) (asC := [(4, 0)]) (LN := [(9, (0, 1)), (8, (4, 35)), (7, (0, 1)), (6, (0, 1)), (4, (1, 0)), (0, (4, 0)), (1, (0, 0)), (2, (0, x2)), (3, (0, 1))]) (stN := []) (hsC := jpA_1544) (ex := [(101, [], [0, 0, 0, 0, 0, 0])]) (v := (9, 0)) (st2 := []) (hs2 := jpA_1627) (jA_239_351 (d := 0)) (by rfl) (by rfl) (by decide +kernel) (by rfl) (by rfl) (by omega) (by omega) (by omega) (by omega) rfl (by decide +kernel) ?_
  refine jT_xaload_n (v := (4, 0)) (pcN := 224) jI_243_223 rfl rfl rfl ?_
  refine jT_xiload_n (v := (0, 0)) (pcN := 225) jI_243_224 rfl rfl rfl ?_
  refine jT_fB [0, 1, 2, 3, 4, 5, 6, 7, 8, 9, 10, 11, 12, 13, 14, 15, 16, 17, 18, 19, 20, 21, 22, 23] 37 (y := 241) (pcN := 228) (dC := 1) (bc1 := 0) (bc2 := 0) (c1 := 0) (c2 := 0) (as := [(4, 0), (0, 0)]) (asC := [(4, 0), (0, 0)]) (LN := [(9, (0, 1)), (8, (4, 35)), (7, (0, 1)), (6, (0, 1)), (4, (1, 0)), (0, (4, 0)), (1, (0, 0)), (2, (0, x2)), (3, (0, 1))]) (stN := []) (hsC := jpA_1558) (hsD := jpA_1562) (v := (0, 1)) (st2 := [(0, 1)]) (hs2 := jpA_1630) (jA_241_353 (d := 0)) (by rfl) (by rfl) (by decide +kernel) (by rfl) (by rfl) (by omega) (by omega) (by omega) (by omega) rfl (by decide +kernel) ?_
  refine jT_adv 1 (pcN := 229) (LN := [(9, (0, 1)), (8, (4, 35)), (7, (0, 1)), (6, (0, 1)), (4, (1, 0)), (0, (4, 0)), (1, (0, 0)), (2, (0, x2)), (3, (0, 1))]) (stN := []) (hsN := jpA_1630) (c1 := 0) (s1 := 0) (c2 := 0) (s2 := 0) (by exact rfl) ?_ (by omega) (by omega)
  refine jT_xiload (v := (0, 1)) (pcN := 231) jI_243_229 rfl rfl rfl ?_
  exact jT_ret rfl (by decide) (by show 30 ≤ 37; decide) (by omega) (by omega) ⟨rfl, rfl, rfl⟩
def jpA_1633 : List JC := [jzA_1556, jgh, jgh, jgh, jgh, jgh, jgh, jgh, jgh, jgh, jgh, jgh, jgh, jgh, jgh, jgh]
theorem jA_186_355 {xs : List Int} {d : Nat} : jT xs d 186 16 0 [(0, (4, 0))] [] jpA_1633 0 0 (fun k v hsN => k = 0 ∧ v = (0, 0) ∧ hsN = jpA_1633 ++ []) := by
  refine jT_advK 2 (pcN := 4) (LN := [(0, (4, 0))]) (stN := [(0, 0)]) (hsN := jpA_1633) (c1 := 0) (s1 := 0) (c2 := 0) (s2 := 0) (by decide +kernel) ?_ (by omega) (by omega)
  exact jT_ret rfl (by decide) (by show 16 ≤ 16; decide) (by omega) (by omega) ⟨rfl, rfl, rfl⟩
theorem jA_115_356 {xs : List Int} {d : Nat} : jT xs d 115 1 0 [(0, (4, 0)), (1, (0, 1)), (2, (0, 4))] [] [jgh] 0 0 (fun k v hsN => k = 0 ∧ v = (9, 0) ∧ hsN = [jgh] ++ []) := by
  refine jT_advK 5 (pcN := 20) (LN := [(0, (4, 0)), (1, (0, 1)), (2, (0, 4))]) (stN := []) (hsN := [jgh]) (c1 := 0) (s1 := 0) (c2 := 0) (s2 := 0) (by decide +kernel) ?_ (by omega) (by omega)
  exact jT_ret rfl (by decide) (by show 1 ≤ 1; decide) (by omega) (by omega) ⟨rfl, rfl, rfl⟩
theorem jA_56_357 {xs : List Int} {d : Nat} : jT xs d 56 10 0 [(0, (4, 0)), (1, (0, 1))] [] jpA_1446 0 0 (fun k v hsN => k = 0 ∧ v = (4, 7) ∧ hsN = jpA_1446 ++ []) := by
  refine jT_advK 4 (pcN := 6) (LN := [(0, (4, 0)), (1, (0, 1))]) (stN := [(4, 7)]) (hsN := jpA_1446) (c1 := 0) (s1 := 0) (c2 := 0) (s2 := 0) (by decide +kernel) ?_ (by omega) (by omega)
  exact jT_ret rfl (by decide) (by show 10 ≤ 10; decide) (by omega) (by omega) ⟨rfl, rfl, rfl⟩
def jpA_1634 : List JC := [jzA_55, (7, [(4, 7), (4, (-1)), (4, (-1))], []), jgh, (117, [], [8, 9, 10, 11]), jgh, jgh, jgh, jgh, jgh, jgh, jgh, jgh, (117, [], [8, 1, 10, 11]), jzA_51]
def jpA_1635 : List JC := [jzA_55, (7, [(4, 7), (4, (-1)), (4, (-1))], []), jgh, (117, [], [8, 9, 10, 11]), jgh, jgh, jgh, jgh, jgh, jgh, jgh, jgh, (117, [], [8, 1, 10, 11]), jzA_1459]
theorem jA_60_358 {xs : List Int} {d : Nat} : jT xs (d + 1) 60 12 0 [(0, (4, 0)), (1, (0, 1)), (2, (4, 1))] [] jpA_1461 2 9 (fun k v hsN => k = 0 ∧ v = (4, 13) ∧ hsN = jpA_1461 ++ [(117, [], [8, 1, 10, 11]), jzA_1459]) := by
  refine jT_advK 20 (pcN := 36) (LN := [(3, (4, 12)), (0, (4, 0)), (1, (0, 1)), (2, (4, 1))]) (stN := [(4, 6), (4, 5), (4, 4), (4, 12), (4, 2), (4, 13), (4, 13)]) (hsN := jpA_1634) (c1 := 2) (s1 := 9) (c2 := 0) (s2 := 0) (by decide +kernel) ?_ (by omega) (by omega)
  refine jT_fB [13, 2, 12, 4, 5, 6] 14 (y := 53) (pcN := 39) (dC := 0) (bc1 := 0) (bc2 := 0) (c1 := 0) (c2 := 0) (as := [(4, 13), (4, 2), (4, 12), (4, 4), (4, 5), (4, 6)]) (asC := [(4, 0), (4, 1), (4, 2), (4, 3), (4, 4), (4, 5)]) (LN := [(3, (4, 12)), (0, (4, 0)), (1, (0, 1)), (2, (4, 1))]) (stN := [(4, 13)]) (hsC := jpA_52) (hsD := jpA_50) (v := (9, 0)) (st2 := [(4, 13)]) (hs2 := jpA_1635) (jA_53_32 (d := 0)) (by rfl) (by rfl) (by decide +kernel) (by rfl) (by rfl) (by omega) (by omega) (by omega) (by omega) rfl (by decide +kernel) ?_
  exact jT_ret rfl (by decide) (by show 12 ≤ 14; decide) (by omega) (by omega) ⟨rfl, rfl, rfl⟩
def jpA_1636 : List JC := [jzA_5, (8, [(4, 12), (4, 13)], []), jgh, jgh, jgh, jgh, jgh, jgh, (101, [], [0, 0, 0, 0, 0, 0]), jgh, jzA_79, jzA_640, jgh, (101, [], [0, 0, 0, 0, 0, 0]), jzA_641, (117, [], [20, 21, 22, 23]), jgh, jgh, jgh, (4, [(4, 24), (1, 1)], []), jgh, (7, [(4, 25), (4, (-1)), (4, (-1))], []), jgh, jgh, (101, [], [0, 0, 0, 0, 0, 0]), (114, [], [19]), (101, [], [0, 0, 0, 0, 0, 0]), (4, [(4, 26), (1, 1)], [])]
def jpA_1637 : List JC := [jzA_5, (8, [(4, 12), (4, 13)], []), jgh, jgh, jgh, jgh, jgh, jgh, (101, [], [0, 0, 0, 0, 0, 0]), jgh, jzA_79, jzA_640, jgh, (101, [], [0, 0, 0, 0, 0, 0]), jzA_641, (117, [], [20, 21, 22, 23]), jgh, jgh, jgh, (4, [(4, 24), (1, 1)], []), jgh, (7, [(4, 25), (4, (-1)), (4, (-1))], []), jgh, jgh, (101, [], [0, 0, 0, 0, 0, 0]), (114, [], [19]), (101, [], [0, 0, 0, 0, 0, 0]), (4, [(4, 26), (1, 1)], []), (114, [], [19, (-1)]), (114, [], [19]), (7, [(4, 29), (4, (-1)), (4, (-1))], [])]
def jpA_1638 : List JC := [jzA_5, (8, [(4, 12), (4, 13)], []), jgh, jgh, jgh, jgh, jgh, jgh, (101, [], [0, 0, 0, 0, 0, 0]), jgh, jzA_79, jzA_640, jgh, (101, [], [0, 0, 0, 0, 0, 0]), jzA_641, (117, [], [20, 21, 22, 23]), jgh, jgh, jgh, (4, [(4, 24), (1, 1)], []), jgh, (7, [(4, 25), (4, (-1)), (4, (-1))], []), jgh, jgh, (101, [], [0, 0, 0, 0, 0, 0]), (114, [], [19]), (101, [], [0, 0, 0, 0, 0, 0]), (4, [(4, 26), (1, 1)], []), (114, [], [19, (-1)]), (114, [], [19]), (7, [(4, 29), (4, (-1)), (4, (-1))], []), (117, [], [20, 30, 22, 23]), jzA_1500]
def jpA_1639 : List JC := [jzA_1502, (8, [(4, 12), (4, 13)], []), jgh, jgh, jgh, jgh, jgh, jgh, (101, [], [0, 0, 0, 0, 0, 0]), jgh, jzA_102, jzA_640, jgh, (101, [], [0, 0, 0, 0, 0, 0]), jzA_641, (117, [], [20, 21, 22, 23]), jgh, jgh, jgh, (4, [(4, 24), (1, 1)], []), jgh, (7, [(4, 25), (4, (-1)), (4, (-1))], []), jgh, jgh, (101, [], [0, 0, 0, 0, 0, 0]), (114, [], [19]), (101, [], [0, 0, 0, 0, 0, 0]), (4, [(4, 26), (1, 1)], []), (114, [], [19, (-1)]), (114, [], [19]), (7, [(4, 29), (4, (-1)), (4, (-1))], []), (117, [], [20, 30, 22, 23]), jzA_1500]
def jpA_1640 : List JC := [jzA_5, (8, [(4, 12), (4, 13)], []), jgh, jgh, jgh, jgh, jgh, jgh, (101, [], [0, 0, 0, 0, 0, 0]), jgh, jzA_79, jzA_640, jgh, (101, [], [0, 0, 0, 0, 0, 0]), jzA_641, (117, [], [20, 21, 22, 23]), jgh, jgh, jgh, (4, [(4, 24), (1, 1)], []), jgh, (7, [(4, 25), (4, (-1)), (4, (-1))], []), jgh, jgh, (101, [], [0, 0, 0, 0, 0, 0]), (114, [], [19])]
theorem jA_128_359 {xs : List Int} {d : Nat} {x2 : Int} (h_x2 : 0 ≤ x2 ∧ x2 ≤ 7) : jT xs (d + 6) 128 26 0 [(0, (4, 0)), (1, (0, 1)), (2, (0, x2)), (3, (0, 1))] [] jpA_1640 7 23 (fun k v hsN => k = 0 ∧ v = (0, 1) ∧ hsN = jpA_1639) := by
  refine jT_xaload_n (v := (4, 0)) (pcN := 1) jI_128_0 rfl rfl rfl ?_
  refine jT_xiload_n (v := (0, 1)) (pcN := 2) jI_128_1 rfl rfl rfl ?_
  refine jT_xiconst (k := 4) (pcN := 3) jI_128_2 rfl ?_
  refine jT_fR [0] 26 (y := 115) (pcN := 6) (dC := 0) (bc1 := 0) (bc2 := 0) (c1 := 7) (c2 := 23) (as := [(4, 0), (0, 1), (0, 4)]) (asC := [(4, 0), (0, 1), (0, 4)]) (LN := [(0, (4, 0)), (1, (0, 1)), (2, (0, x2)), (3, (0, 1))]) (stN := []) (hsC := [jgh]) (v := (9, 0)) (st2 := []) (jA_115_356 (d := 0)) (by rfl) (by rfl) (by decide +kernel) (by rfl) (by rfl) (by omega) (by omega) (by omega) (by omega) rfl ?_
  refine jT_xaload_n (v := (4, 0)) (pcN := 7) jI_128_6 rfl rfl rfl ?_
  refine jT_xiload_n (v := (0, x2)) (pcN := 8) jI_128_7 rfl rfl rfl ?_
  refine jT_xbipush (k := 8) (pcN := 10) jI_128_8 (by decide) rfl ?_
  refine jT_fR [0] 26 (y := 115) (pcN := 13) (dC := 0) (bc1 := 0) (bc2 := 0) (c1 := 7) (c2 := 23) (as := [(4, 0), (0, x2), (0, 8)]) (asC := [(4, 0), (0, x2), (0, 8)]) (LN := [(0, (4, 0)), (1, (0, 1)), (2, (0, x2)), (3, (0, 1))]) (stN := []) (hsC := [jgh]) (v := (9, 0)) (st2 := []) (jA_115_16 (d := 0) (by omega)) (by rfl) (by rfl) (by decide +kernel) (by rfl) (by rfl) (by omega) (by omega) (by omega) (by omega) rfl ?_
  refine jT_xaload_n (v := (4, 0)) (pcN := 14) jI_128_13 rfl rfl rfl ?_
  refine jT_xgetf (a := 0) (t := 1) (ci := 13) (fi := 11) (c := jzA_5) (v := (4, 11)) (pcN := 17) jI_128_14 rfl rfl rfl rfl rfl rfl rfl ?_
  refine jT_xiload_n (v := (0, 1)) (pcN := 18) jI_128_17 rfl rfl rfl ?_
  refine jT_fR [11, 14, 15, 16, 17, 18, 20, 21, 22, 23] 26 (y := 56) (pcN := 21) (dC := 0) (bc1 := 0) (bc2 := 0) (c1 := 7) (c2 := 23) (as := [(4, 11), (0, 1)]) (asC := [(4, 0), (0, 1)]) (LN := [(0, (4, 0)), (1, (0, 1)), (2, (0, x2)), (3, (0, 1))]) (stN := []) (hsC := jpA_1446) (v := (4, 7)) (st2 := [(4, 21)]) (jA_56_357 (d := 0)) (by rfl) (by rfl) (by decide +kernel) (by rfl) (by rfl) (by omega) (by omega) (by omega) (by omega) rfl ?_
  refine jT_xastore (v := (4, 21)) (LN := [(4, (4, 21)), (0, (4, 0)), (1, (0, 1)), (2, (0, x2)), (3, (0, 1))]) (pcN := 23) jI_128_21 rfl rfl rfl rfl ?_
  refine jT_xaload_n (v := (4, 0)) (pcN := 24) jI_128_23 rfl rfl rfl ?_
  refine jT_xaload_n (v := (4, 0)) (pcN := 25) jI_128_24 rfl rfl rfl ?_
  refine jT_xgetf (a := 0) (t := 1) (ci := 13) (fi := 11) (c := jzA_5) (v := (4, 11)) (pcN := 28) jI_128_25 rfl rfl rfl rfl rfl rfl rfl ?_
  refine jT_xiload_n (v := (0, x2)) (pcN := 29) jI_128_28 rfl rfl rfl ?_
  refine jT_fR [11, 14, 15, 16, 17, 18, 19] 26 (y := 57) (pcN := 32) (dC := 0) (bc1 := 0) (bc2 := 0) (c1 := 7) (c2 := 23) (as := [(4, 11), (0, x2)]) (asC := [(4, 0), (0, x2)]) (LN := [(4, (4, 21)), (0, (4, 0)), (1, (0, 1)), (2, (0, x2)), (3, (0, 1))]) (stN := [(4, 0)]) (hsC := jpA_47) (v := (4, 6)) (st2 := [(4, 19), (4, 0)]) (jA_57_24 (d := 0) (by omega)) (by rfl) (by rfl) (by decide +kernel) (by rfl) (by rfl) (by omega) (by omega) (by omega) (by omega) rfl ?_
  refine jT_xiconst (k := 1) (pcN := 33) jI_128_32 rfl ?_
  refine jT_fA [0, 19, 1, 2, 3, 4, 5, 6, 7, 8, 9, 10, 11, 24, 12, 13] 26 (y := 127) (pcN := 36) (dC := 3) (bc1 := 2) (bc2 := 8) (c1 := 5) (c2 := 15) (as := [(4, 0), (4, 19), (0, 1)]) (asC := [(4, 0), (4, 1), (0, 1)]) (LN := [(4, (4, 21)), (0, (4, 0)), (1, (0, 1)), (2, (0, x2)), (3, (0, 1))]) (stN := []) (hsC := jpA_1447) (ex := [(101, [], [0, 0, 0, 0, 0, 0]), (4, [(4, 16), (1, 1)], [])]) (v := (4, 17)) (st2 := [(4, 27)]) (hs2 := jpA_1636) (jA_127_323 (d := 0)) (by rfl) (by rfl) (by decide +kernel) (by rfl) (by rfl) (by omega) (by omega) (by omega) (by omega) rfl (by decide +kernel) ?_
  refine jT_xastore (v := (4, 27)) (LN := [(5, (4, 27)), (4, (4, 21)), (0, (4, 0)), (1, (0, 1)), (2, (0, x2)), (3, (0, 1))]) (pcN := 38) jI_128_36 rfl rfl rfl rfl ?_
  refine jT_xaload (v := (4, 21)) (pcN := 40) jI_128_38 rfl rfl rfl ?_
  refine jT_xaload (v := (4, 27)) (pcN := 42) jI_128_40 rfl rfl rfl ?_
  refine jT_xaload_n (v := (4, 0)) (pcN := 43) jI_128_42 rfl rfl rfl ?_
  refine jT_xgetf (a := 0) (t := 1) (ci := 13) (fi := 0) (c := jzA_5) (v := (4, 1)) (pcN := 46) jI_128_43 rfl rfl rfl rfl rfl rfl rfl ?_
  refine jT_fR [21, 27, 1, 25, 26, 12, 13, 19, 24] 28 (y := 33) (pcN := 49) (dC := 4) (bc1 := 0) (bc2 := 0) (c1 := 5) (c2 := 15) (as := [(4, 21), (4, 27), (4, 1)]) (asC := [(4, 0), (4, 1), (4, 2)]) (LN := [(5, (4, 27)), (4, (4, 21)), (0, (4, 0)), (1, (0, 1)), (2, (0, x2)), (3, (0, 1))]) (stN := []) (hsC := jpA_1451) (v := (0, 0)) (st2 := [(0, 0)]) (jA_33_328 (d := 0)) (by rfl) (by rfl) (by decide +kernel) (by rfl) (by rfl) (by omega) (by omega) (by omega) (by omega) rfl ?_
  refine jT_xistore (v := (0, 0)) (LN := [(6, (0, 0)), (5, (4, 27)), (4, (4, 21)), (0, (4, 0)), (1, (0, 1)), (2, (0, x2)), (3, (0, 1))]) (pcN := 51) jI_128_49 rfl rfl rfl rfl ?_
  refine jT_xiload_n (v := (0, 1)) (pcN := 52) jI_128_51 rfl rfl rfl ?_
  refine jT_xifT (pcN := 79) jI_128_52 rfl (by decide +kernel) rfl ?_
  refine jT_xiload_n (v := (0, 1)) (pcN := 80) jI_128_79 rfl rfl rfl ?_
  refine jT_xifF (t := 108) (pcN := 83) jI_128_80 rfl (by decide +kernel) rfl rfl ?_
  refine jT_xiload (v := (0, 0)) (pcN := 85) jI_128_83 rfl rfl rfl ?_
  refine jT_xifT (pcN := 108) jI_128_85 rfl (by decide +kernel) rfl ?_
  refine jT_xiload_n (v := (0, 1)) (pcN := 109) jI_128_108 rfl rfl rfl ?_
  refine jT_xifF (t := 118) (pcN := 112) jI_128_109 rfl (by decide +kernel) rfl rfl ?_
  refine jT_xaload_n (v := (4, 0)) (pcN := 113) jI_128_112 rfl rfl rfl ?_
  refine jT_xaload (v := (4, 27)) (pcN := 115) jI_128_113 rfl rfl rfl ?_
  refine jT_fR [0, 27, 26] 28 (y := 117) (pcN := 118) (dC := 2) (bc1 := 0) (bc2 := 0) (c1 := 5) (c2 := 15) (as := [(4, 0), (4, 27)]) (asC := [(4, 0), (4, 1)]) (LN := [(6, (0, 0)), (5, (4, 27)), (4, (4, 21)), (0, (4, 0)), (1, (0, 1)), (2, (0, x2)), (3, (0, 1))]) (stN := []) (hsC := [jgh, (4, [(4, 2), (1, 1)], []), (101, [], [0, 0, 0, 0, 0, 0])]) (v := (9, 0)) (st2 := []) (jA_117_31 (d := 0)) (by rfl) (by rfl) (by decide +kernel) (by rfl) (by rfl) (by omega) (by omega) (by omega) (by omega) rfl ?_
  refine jT_xaload_n (v := (4, 0)) (pcN := 119) jI_128_118 rfl rfl rfl ?_
  refine jT_xaload_n (v := (4, 0)) (pcN := 120) jI_128_119 rfl rfl rfl ?_
  refine jT_xgetf (a := 0) (t := 1) (ci := 13) (fi := 11) (c := jzA_5) (v := (4, 11)) (pcN := 123) jI_128_120 rfl rfl rfl rfl rfl rfl rfl ?_
  refine jT_xiload_n (v := (0, 1)) (pcN := 124) jI_128_123 rfl rfl rfl ?_
  refine jT_xiload_n (v := (0, 1)) (pcN := 125) jI_128_124 rfl rfl rfl ?_
  refine jT_xifF (t := 142) (pcN := 128) jI_128_125 rfl (by decide +kernel) rfl rfl ?_
  refine jT_xaload (v := (4, 21)) (pcN := 130) jI_128_128 rfl rfl rfl ?_
  refine jT_xaload (v := (4, 27)) (pcN := 132) jI_128_130 rfl rfl rfl ?_
  refine jT_xaload_n (v := (4, 0)) (pcN := 133) jI_128_132 rfl rfl rfl ?_
  refine jT_xgetf (a := 0) (t := 1) (ci := 13) (fi := 0) (c := jzA_5) (v := (4, 1)) (pcN := 136) jI_128_133 rfl rfl rfl rfl rfl rfl rfl ?_
  refine jT_fA [21, 27, 1, 25, 26, 12, 13, 19, 24] 28 (y := 34) (pcN := 139) (dC := 5) (bc1 := 3) (bc2 := 6) (c1 := 2) (c2 := 9) (as := [(4, 21), (4, 27), (4, 1)]) (asC := [(4, 0), (4, 1), (4, 2)]) (LN := [(6, (0, 0)), (5, (4, 27)), (4, (4, 21)), (0, (4, 0)), (1, (0, 1)), (2, (0, x2)), (3, (0, 1))]) (stN := [(0, 1), (4, 11), (4, 0)]) (hsC := jpA_1451) (ex := [(114, [], [7, (-1)]), (114, [], [7]), (7, [(4, 10), (4, (-1)), (4, (-1))], [])]) (v := (4, 11)) (st2 := [(4, 30), (0, 1), (4, 11), (4, 0)]) (hs2 := jpA_1637) (jA_34_333 (d := 0)) (by rfl) (by rfl) (by decide +kernel) (by rfl) (by rfl) (by omega) (by omega) (by omega) (by omega) rfl (by decide +kernel) ?_
  refine jT_xgoto (pcN := 149) jI_128_139 rfl ?_
  refine jT_fA [11, 30, 14, 15, 16, 17, 18, 29, 20, 21, 22, 23] 31 (y := 60) (pcN := 152) (dC := 1) (bc1 := 2) (bc2 := 9) (c1 := 0) (c2 := 0) (as := [(4, 11), (0, 1), (4, 30)]) (asC := [(4, 0), (0, 1), (4, 1)]) (LN := [(6, (0, 0)), (5, (4, 27)), (4, (4, 21)), (0, (4, 0)), (1, (0, 1)), (2, (0, x2)), (3, (0, 1))]) (stN := [(4, 0)]) (hsC := jpA_1461) (ex := [(117, [], [8, 1, 10, 11]), jzA_1459]) (v := (4, 13)) (st2 := [(4, 32), (4, 0)]) (hs2 := jpA_1638) (jA_60_358 (d := 0)) (by rfl) (by rfl) (by decide +kernel) (by rfl) (by rfl) (by omega) (by omega) (by omega) (by omega) rfl (by decide +kernel) ?_
  refine jT_fB [0, 32, 1, 2, 3, 4, 5, 6, 7, 8, 9, 10, 11, 14, 15, 16, 17, 18] 33 (y := 100) (pcN := 155) (dC := 0) (bc1 := 0) (bc2 := 0) (c1 := 0) (c2 := 0) (as := [(4, 0), (4, 32)]) (asC := [(4, 0), (4, 1)]) (LN := [(6, (0, 0)), (5, (4, 27)), (4, (4, 21)), (0, (4, 0)), (1, (0, 1)), (2, (0, x2)), (3, (0, 1))]) (stN := []) (hsC := jpA_80) (hsD := jpA_78) (v := (9, 0)) (st2 := []) (hs2 := jpA_1639) (jA_100_34 (d := 0)) (by rfl) (by rfl) (by decide +kernel) (by rfl) (by rfl) (by omega) (by omega) (by omega) (by omega) rfl (by decide +kernel) ?_
  refine jT_xiload (v := (0, 0)) (pcN := 157) jI_128_155 rfl rfl rfl ?_
  refine jT_xifF (t := 164) (pcN := 160) jI_128_157 rfl (by decide +kernel) rfl rfl ?_
  refine jT_xiconst (k := 1) (pcN := 161) jI_128_160 rfl ?_
  refine jT_xgoto (pcN := 165) jI_128_161 rfl ?_
  exact jT_ret rfl (by decide) (by show 26 ≤ 33; decide) (by omega) (by omega) ⟨rfl, rfl, rfl⟩
def jpA_1641 : List JC := [jzA_1509, (101, [], [0]), (8, [(4, 13), (4, 14)], []), jgh, jgh, jgh, jgh, jgh, jgh, (101, [], [0, 0, 0, 0, 0, 0]), jgh, jzA_76, jzA_659, jgh, (101, [], [0, 0, 0, 0, 0, 0]), jzA_660, (117, [], [21, 22, 23, 24]), jgh, jgh, jgh, (4, [(4, 25), (1, 1)], []), jgh, (7, [(4, 26), (4, (-1)), (4, (-1))], []), jgh, jgh, (101, [], [0, 0, 0, 0, 0, 0]), (114, [], [20]), (101, [], [0, 0, 0, 0, 0, 0]), (4, [(4, 27), (1, 1)], []), (114, [], [20, (-1)]), (114, [], [20]), (7, [(4, 30), (4, (-1)), (4, (-1))], []), (117, [], [21, 31, 23, 24]), jzA_1510]
def jpA_1642 : List JC := [jzA_1509, (101, [], [1]), (8, [(4, 13), (4, 14)], []), jgh, jgh, jgh, jgh, jgh, jgh, (101, [], [0, 0, 0, 0, 0, 0]), jgh, jzA_76, jzA_659, jgh, (101, [], [0, 0, 0, 0, 0, 0]), jzA_660, (117, [], [21, 22, 23, 24]), jgh, jgh, jgh, (4, [(4, 25), (1, 1)], []), jgh, (7, [(4, 26), (4, (-1)), (4, (-1))], []), jgh, jgh, (101, [], [0, 0, 0, 0, 0, 0]), (114, [], [20]), (101, [], [0, 0, 0, 0, 0, 0]), (4, [(4, 27), (1, 1)], []), (114, [], [20, (-1)]), (114, [], [20]), (7, [(4, 30), (4, (-1)), (4, (-1))], []), (117, [], [21, 31, 23, 24]), jzA_1510]
def jpA_1643 : List JC := [jzA_14, (101, [], [0]), (8, [(4, 13), (4, 14)], []), jgh, jgh, jgh, jgh, jgh, jgh, (101, [], [0, 0, 0, 0, 0, 0]), jgh, jzA_79, jzA_659, jgh, (101, [], [0, 0, 0, 0, 0, 0]), jzA_660, (117, [], [21, 22, 23, 24]), jgh, jgh, jgh, (4, [(4, 25), (1, 1)], []), jgh, (7, [(4, 26), (4, (-1)), (4, (-1))], []), jgh, jgh, (101, [], [0, 0, 0, 0, 0, 0]), (114, [], [20])]
theorem jA_336_360 {xs : List Int} {d : Nat} {x2 : Int} (h_x2 : 0 ≤ x2 ∧ x2 ≤ 7) : jT xs (d + 7) 336 27 0 [(0, (4, 0)), (1, (0, 1)), (2, (0, x2)), (3, (0, 1)), (4, (4, 1))] [] jpA_1643 7 23 (fun k v hsN => k = 0 ∧ v = (0, 0) ∧ hsN = jpA_1642) := by
  refine jT_xaload (v := (4, 1)) (pcN := 2) jI_336_0 rfl rfl rfl ?_
  refine jT_xiconst (k := 0) (pcN := 3) jI_336_2 rfl ?_
  refine jT_xaload_n (v := (4, 0)) (pcN := 4) jI_336_3 rfl rfl rfl ?_
  refine jT_xiload_n (v := (0, 1)) (pcN := 5) jI_336_4 rfl rfl rfl ?_
  refine jT_xiload_n (v := (0, x2)) (pcN := 6) jI_336_5 rfl rfl rfl ?_
  refine jT_xiload_n (v := (0, 1)) (pcN := 7) jI_336_6 rfl rfl rfl ?_
  refine jT_fB [0, 2, 3, 4, 5, 6, 7, 8, 9, 10, 11, 12, 13, 14, 15, 16, 17, 18, 19, 20, 21, 22, 23, 24, 25, 26] 27 (y := 128) (pcN := 10) (dC := 6) (bc1 := 7) (bc2 := 23) (c1 := 0) (c2 := 0) (as := [(4, 0), (0, 1), (0, x2), (0, 1)]) (asC := [(4, 0), (0, 1), (0, x2), (0, 1)]) (LN := [(0, (4, 0)), (1, (0, 1)), (2, (0, x2)), (3, (0, 1)), (4, (4, 1))]) (stN := [(0, 0), (4, 1)]) (hsC := jpA_1640) (hsD := jpA_1639) (v := (0, 1)) (st2 := [(0, 1), (0, 0), (4, 1)]) (hs2 := jpA_1641) (jA_128_359 (d := 0) (by omega)) (by rfl) (by rfl) (by decide +kernel) (by rfl) (by rfl) (by omega) (by omega) (by omega) (by omega) rfl (by decide +kernel) ?_
  refine jT_xifF (t := 17) (pcN := 13) jI_336_10 rfl (by decide +kernel) rfl rfl ?_
  refine jT_xlconst (z := 1) (pcN := 14) jI_336_13 rfl rfl ?_
  refine jT_xgoto (pcN := 18) jI_336_14 rfl ?_
  refine jT_adv 1 (pcN := 19) (LN := [(0, (4, 0)), (1, (0, 1)), (2, (0, x2)), (3, (0, 1)), (4, (4, 1))]) (stN := []) (hsN := jpA_1642) (c1 := 0) (s1 := 0) (c2 := 0) (s2 := 0) (by exact rfl) ?_ (by omega) (by omega)
  refine jT_xgoto (pcN := 34) jI_336_19 rfl ?_
  refine jT_xiconst (k := 0) (pcN := 35) jI_336_34 rfl ?_
  exact jT_ret rfl (by decide) (by show 27 ≤ 34; decide) (by omega) (by omega) ⟨rfl, rfl, rfl⟩
theorem jA_189_361 {xs : List Int} {d : Nat} : jT xs d 189 0 0 [(0, (1, 1)), (2, (1, 0)), (4, (1, 3))] [] [] 0 0 (fun k v hsN => k = 0 ∧ v = (0, 1) ∧ hsN = [] ++ []) := by
  refine jT_advK 10 (pcN := 18) (LN := [(0, (1, 1)), (2, (1, 0)), (4, (1, 3))]) (stN := [(0, 1)]) (hsN := []) (c1 := 0) (s1 := 0) (c2 := 0) (s2 := 0) (by decide +kernel) ?_ (by omega) (by omega)
  exact jT_ret rfl (by decide) (by show 0 ≤ 0; decide) (by omega) (by omega) ⟨rfl, rfl, rfl⟩
theorem jA_238_362 {xs : List Int} {d : Nat} : jT xs (d + 1) 238 0 0 [(0, (0, 1))] [] [] 0 0 (fun k v hsN => k = 0 ∧ v = (0, 1) ∧ hsN = [] ++ []) := by
  refine jT_advK 4 (pcN := 6) (LN := [(0, (0, 1))]) (stN := [(1, 3), (1, 0), (1, 1)]) (hsN := []) (c1 := 0) (s1 := 0) (c2 := 0) (s2 := 0) (by decide +kernel) ?_ (by omega) (by omega)
  refine jT_fR [] 0 (y := 189) (pcN := 9) (dC := 0) (bc1 := 0) (bc2 := 0) (c1 := 0) (c2 := 0) (as := [(1, 1), (1, 0), (1, 3)]) (asC := [(1, 1), (1, 0), (1, 3)]) (LN := [(0, (0, 1))]) (stN := []) (hsC := []) (v := (0, 1)) (st2 := [(0, 1)]) (jA_189_361 (d := 0)) (by rfl) (by rfl) (by decide +kernel) (by rfl) (by rfl) (by omega) (by omega) (by omega) (by omega) rfl ?_
  exact jT_ret rfl (by decide) (by show 0 ≤ 0; decide) (by omega) (by omega) ⟨rfl, rfl, rfl⟩
theorem jA_245_363 {xs : List Int} {d : Nat} : jT xs d 245 16 0 [(0, (4, 0)), (1, (0, 1))] [] jpA_1519 0 0 (fun k v hsN => k = 0 ∧ v = (0, 1) ∧ hsN = jpA_1519 ++ []) := by
  refine jT_advK 7 (pcN := 12) (LN := [(0, (4, 0)), (1, (0, 1))]) (stN := [(0, 337), (4, 1)]) (hsN := jpA_1519) (c1 := 0) (s1 := 0) (c2 := 0) (s2 := 0) (by decide +kernel) ?_ (by omega) (by omega)
  refine jT_iald (x := 1) (a := 1) (j := 337) (fs := []) (X := jS0) (by rfl) (by rfl) (by rfl) (by rfl) (by decide +kernel) ?_
  refine jT_eq (LN := [(0, (4, 0)), (1, (0, 1))]) (stN := [(0, 1)]) (hsN := jpA_1519) rfl rfl rfl ?_
  exact jT_ret rfl (by decide) (by show 16 ≤ 16; decide) (by omega) (by omega) ⟨rfl, rfl, rfl⟩
theorem jA_242_364 {xs : List Int} {d : Nat} : jT xs d 242 0 0 [(0, (0, 1)), (1, (0, 0))] [] [] 0 0 (fun k v hsN => k = 0 ∧ v = (0, 338) ∧ hsN = [] ++ []) := by
  refine jT_advK 11 (pcN := 15) (LN := [(0, (0, 1)), (1, (0, 0))]) (stN := [(0, 338)]) (hsN := []) (c1 := 0) (s1 := 0) (c2 := 0) (s2 := 0) (by decide +kernel) ?_ (by omega) (by omega)
  exact jT_ret rfl (by decide) (by show 0 ≤ 0; decide) (by omega) (by omega) ⟨rfl, rfl, rfl⟩
theorem jA_236_365 {xs : List Int} {d : Nat} : jT xs d 236 16 0 [(0, (4, 0)), (1, (4, 1)), (2, (0, 338))] [] jpA_130 0 0 (fun k v hsN => k = 0 ∧ v = (0, 1) ∧ hsN = jpA_130 ++ []) := by
  refine jT_advK 6 (pcN := 9) (LN := [(0, (4, 0)), (1, (4, 1)), (2, (0, 338))]) (stN := [(0, 344), (4, 1), (1, 1)]) (hsN := jpA_130) (c1 := 0) (s1 := 0) (c2 := 0) (s2 := 0) (by decide +kernel) ?_ (by omega) (by omega)
  refine jT_iald (x := 1) (a := 1) (j := 344) (fs := []) (X := jS0) (by rfl) (by rfl) (by rfl) (by rfl) (by decide +kernel) ?_
  refine jT_eq (LN := [(0, (4, 0)), (1, (4, 1)), (2, (0, 338))]) (stN := [(0, 1), (1, 1)]) (hsN := jpA_130) rfl rfl rfl ?_
  refine jT_advK 21 (pcN := 47) (LN := [(4, (0, 0)), (3, (0, 1)), (0, (4, 0)), (1, (4, 1)), (2, (0, 338))]) (stN := [(0, 338), (4, 1), (1, 0)]) (hsN := jpA_130) (c1 := 0) (s1 := 0) (c2 := 0) (s2 := 0) (by decide +kernel) ?_ (by omega) (by omega)
  refine jT_iald (x := 0) (a := 1) (j := 338) (fs := []) (X := jS0) (by rfl) (by rfl) (by rfl) (by rfl) (by decide +kernel) ?_
  refine jT_eq (LN := [(4, (0, 0)), (3, (0, 1)), (0, (4, 0)), (1, (4, 1)), (2, (0, 338))]) (stN := [(0, 0), (1, 0)]) (hsN := jpA_130) rfl rfl rfl ?_
  refine jT_advK 21 (pcN := 47) (LN := [(4, (0, 1)), (3, (0, 1)), (0, (4, 0)), (1, (4, 1)), (2, (0, 338))]) (stN := [(0, 339), (4, 1), (1, 0)]) (hsN := jpA_130) (c1 := 0) (s1 := 0) (c2 := 0) (s2 := 0) (by decide +kernel) ?_ (by omega) (by omega)
  refine jT_iald (x := 0) (a := 1) (j := 339) (fs := []) (X := jS0) (by rfl) (by rfl) (by rfl) (by rfl) (by decide +kernel) ?_
  refine jT_eq (LN := [(4, (0, 1)), (3, (0, 1)), (0, (4, 0)), (1, (4, 1)), (2, (0, 338))]) (stN := [(0, 0), (1, 0)]) (hsN := jpA_130) rfl rfl rfl ?_
  refine jT_advK 21 (pcN := 47) (LN := [(4, (0, 2)), (3, (0, 1)), (0, (4, 0)), (1, (4, 1)), (2, (0, 338))]) (stN := [(0, 340), (4, 1), (1, 0)]) (hsN := jpA_130) (c1 := 0) (s1 := 0) (c2 := 0) (s2 := 0) (by decide +kernel) ?_ (by omega) (by omega)
  refine jT_iald (x := 0) (a := 1) (j := 340) (fs := []) (X := jS0) (by rfl) (by rfl) (by rfl) (by rfl) (by decide +kernel) ?_
  refine jT_eq (LN := [(4, (0, 2)), (3, (0, 1)), (0, (4, 0)), (1, (4, 1)), (2, (0, 338))]) (stN := [(0, 0), (1, 0)]) (hsN := jpA_130) rfl rfl rfl ?_
  refine jT_advK 21 (pcN := 47) (LN := [(4, (0, 3)), (3, (0, 1)), (0, (4, 0)), (1, (4, 1)), (2, (0, 338))]) (stN := [(0, 341), (4, 1), (1, 0)]) (hsN := jpA_130) (c1 := 0) (s1 := 0) (c2 := 0) (s2 := 0) (by decide +kernel) ?_ (by omega) (by omega)
  refine jT_iald (x := 0) (a := 1) (j := 341) (fs := []) (X := jS0) (by rfl) (by rfl) (by rfl) (by rfl) (by decide +kernel) ?_
  refine jT_eq (LN := [(4, (0, 3)), (3, (0, 1)), (0, (4, 0)), (1, (4, 1)), (2, (0, 338))]) (stN := [(0, 0), (1, 0)]) (hsN := jpA_130) rfl rfl rfl ?_
  refine jT_advK 21 (pcN := 47) (LN := [(4, (0, 4)), (3, (0, 1)), (0, (4, 0)), (1, (4, 1)), (2, (0, 338))]) (stN := [(0, 342), (4, 1), (1, 0)]) (hsN := jpA_130) (c1 := 0) (s1 := 0) (c2 := 0) (s2 := 0) (by decide +kernel) ?_ (by omega) (by omega)
  refine jT_iald (x := 0) (a := 1) (j := 342) (fs := []) (X := jS0) (by rfl) (by rfl) (by rfl) (by rfl) (by decide +kernel) ?_
  refine jT_eq (LN := [(4, (0, 4)), (3, (0, 1)), (0, (4, 0)), (1, (4, 1)), (2, (0, 338))]) (stN := [(0, 0), (1, 0)]) (hsN := jpA_130) rfl rfl rfl ?_
  refine jT_advK 21 (pcN := 47) (LN := [(4, (0, 5)), (3, (0, 1)), (0, (4, 0)), (1, (4, 1)), (2, (0, 338))]) (stN := [(0, 343), (4, 1), (1, 0)]) (hsN := jpA_130) (c1 := 0) (s1 := 0) (c2 := 0) (s2 := 0) (by decide +kernel) ?_ (by omega) (by omega)
  refine jT_iald (x := 0) (a := 1) (j := 343) (fs := []) (X := jS0) (by rfl) (by rfl) (by rfl) (by rfl) (by decide +kernel) ?_
  refine jT_eq (LN := [(4, (0, 5)), (3, (0, 1)), (0, (4, 0)), (1, (4, 1)), (2, (0, 338))]) (stN := [(0, 0), (1, 0)]) (hsN := jpA_130) rfl rfl rfl ?_
  refine jT_advK 12 (pcN := 66) (LN := [(4, (0, 6)), (3, (0, 1)), (0, (4, 0)), (1, (4, 1)), (2, (0, 338))]) (stN := [(0, 1)]) (hsN := jpA_130) (c1 := 0) (s1 := 0) (c2 := 0) (s2 := 0) (by decide +kernel) ?_ (by omega) (by omega)
  exact jT_ret rfl (by decide) (by show 16 ≤ 16; decide) (by omega) (by omega) ⟨rfl, rfl, rfl⟩
theorem jA_244_366 {xs : List Int} {d : Nat} : jT xs (d + 1) 244 16 0 [(0, (4, 0)), (1, (0, 1))] [] jpA_130 0 0 (fun k v hsN => k = 0 ∧ v = (0, 1) ∧ hsN = jpA_130 ++ []) := by
  refine jT_advK 5 (pcN := 5) (LN := [(2, (0, 0)), (0, (4, 0)), (1, (0, 1))]) (stN := [(0, 1), (4, 0), (0, 0)]) (hsN := jpA_130) (c1 := 0) (s1 := 0) (c2 := 0) (s2 := 0) (by decide +kernel) ?_ (by omega) (by omega)
  refine jT_fR [0, 1, 2, 3, 4, 5, 6, 7, 8, 9, 10, 11, 12, 13, 14, 15] 16 (y := 245) (pcN := 8) (dC := 0) (bc1 := 0) (bc2 := 0) (c1 := 0) (c2 := 0) (as := [(4, 0), (0, 1)]) (asC := [(4, 0), (0, 1)]) (LN := [(2, (0, 0)), (0, (4, 0)), (1, (0, 1))]) (stN := [(0, 0)]) (hsC := jpA_1519) (v := (0, 1)) (st2 := [(0, 1), (0, 0)]) (jA_245_363 (d := 0)) (by rfl) (by rfl) (by decide +kernel) (by rfl) (by rfl) (by omega) (by omega) (by omega) (by omega) rfl ?_
  refine jT_advK 6 (pcN := 18) (LN := [(2, (0, 0)), (0, (4, 0)), (1, (0, 1))]) (stN := [(0, 0), (0, 1), (4, 1), (4, 0)]) (hsN := jpA_130) (c1 := 0) (s1 := 0) (c2 := 0) (s2 := 0) (by decide +kernel) ?_ (by omega) (by omega)
  refine jT_fR [] 16 (y := 242) (pcN := 21) (dC := 0) (bc1 := 0) (bc2 := 0) (c1 := 0) (c2 := 0) (as := [(0, 1), (0, 0)]) (asC := [(0, 1), (0, 0)]) (LN := [(2, (0, 0)), (0, (4, 0)), (1, (0, 1))]) (stN := [(4, 1), (4, 0)]) (hsC := []) (v := (0, 338)) (st2 := [(0, 338), (4, 1), (4, 0)]) (jA_242_364 (d := 0)) (by rfl) (by rfl) (by decide +kernel) (by rfl) (by rfl) (by omega) (by omega) (by omega) (by omega) rfl ?_
  refine jT_fR [0, 1, 2, 3, 4, 5, 6, 7, 8, 9, 10, 11, 12, 13, 14, 15] 16 (y := 236) (pcN := 24) (dC := 0) (bc1 := 0) (bc2 := 0) (c1 := 0) (c2 := 0) (as := [(4, 0), (4, 1), (0, 338)]) (asC := [(4, 0), (4, 1), (0, 338)]) (LN := [(2, (0, 0)), (0, (4, 0)), (1, (0, 1))]) (stN := []) (hsC := jpA_130) (v := (0, 1)) (st2 := [(0, 1)]) (jA_236_365 (d := 0)) (by rfl) (by rfl) (by decide +kernel) (by rfl) (by rfl) (by omega) (by omega) (by omega) (by omega) rfl ?_
  refine jT_advK 2 (pcN := 28) (LN := [(2, (0, 0)), (0, (4, 0)), (1, (0, 1))]) (stN := [(0, 1)]) (hsN := jpA_130) (c1 := 0) (s1 := 0) (c2 := 0) (s2 := 0) (by decide +kernel) ?_ (by omega) (by omega)
  exact jT_ret rfl (by decide) (by show 16 ≤ 16; decide) (by omega) (by omega) ⟨rfl, rfl, rfl⟩
theorem jA_203_367 {xs : List Int} {d : Nat} : jT xs d 203 16 0 [(0, (4, 0)), (1, (4, 1)), (2, (0, 338))] [] jpA_130 0 0 (fun k v hsN => k = 0 ∧ v = (9, 0) ∧ hsN = jpA_130 ++ []) := by
  refine jT_advK 12 (pcN := 17) (LN := [(3, (0, 0)), (0, (4, 0)), (1, (4, 1)), (2, (0, 338))]) (stN := [(0, 338), (4, 1), (0, 0), (4, 7)]) (hsN := jpA_130) (c1 := 0) (s1 := 0) (c2 := 0) (s2 := 0) (by decide +kernel) ?_ (by omega) (by omega)
  refine jT_iald (x := 0) (a := 1) (j := 338) (fs := []) (X := jS0) (by rfl) (by rfl) (by rfl) (by rfl) (by decide +kernel) ?_
  refine jT_eq (LN := [(3, (0, 0)), (0, (4, 0)), (1, (4, 1)), (2, (0, 338))]) (stN := [(0, 0), (0, 0), (4, 7)]) (hsN := jpA_130) rfl rfl rfl ?_
  refine jT_advK 14 (pcN := 17) (LN := [(3, (0, 1)), (0, (4, 0)), (1, (4, 1)), (2, (0, 338))]) (stN := [(0, 339), (4, 1), (0, 1), (4, 7)]) (hsN := jpA_130) (c1 := 0) (s1 := 0) (c2 := 0) (s2 := 0) (by decide +kernel) ?_ (by omega) (by omega)
  refine jT_iald (x := 0) (a := 1) (j := 339) (fs := []) (X := jS0) (by rfl) (by rfl) (by rfl) (by rfl) (by decide +kernel) ?_
  refine jT_eq (LN := [(3, (0, 1)), (0, (4, 0)), (1, (4, 1)), (2, (0, 338))]) (stN := [(0, 0), (0, 1), (4, 7)]) (hsN := jpA_130) rfl rfl rfl ?_
  refine jT_advK 14 (pcN := 17) (LN := [(3, (0, 2)), (0, (4, 0)), (1, (4, 1)), (2, (0, 338))]) (stN := [(0, 340), (4, 1), (0, 2), (4, 7)]) (hsN := jpA_130) (c1 := 0) (s1 := 0) (c2 := 0) (s2 := 0) (by decide +kernel) ?_ (by omega) (by omega)
  refine jT_iald (x := 0) (a := 1) (j := 340) (fs := []) (X := jS0) (by rfl) (by rfl) (by rfl) (by rfl) (by decide +kernel) ?_
  refine jT_eq (LN := [(3, (0, 2)), (0, (4, 0)), (1, (4, 1)), (2, (0, 338))]) (stN := [(0, 0), (0, 2), (4, 7)]) (hsN := jpA_130) rfl rfl rfl ?_
  refine jT_advK 14 (pcN := 17) (LN := [(3, (0, 3)), (0, (4, 0)), (1, (4, 1)), (2, (0, 338))]) (stN := [(0, 341), (4, 1), (0, 3), (4, 7)]) (hsN := jpA_130) (c1 := 0) (s1 := 0) (c2 := 0) (s2 := 0) (by decide +kernel) ?_ (by omega) (by omega)
  refine jT_iald (x := 0) (a := 1) (j := 341) (fs := []) (X := jS0) (by rfl) (by rfl) (by rfl) (by rfl) (by decide +kernel) ?_
  refine jT_eq (LN := [(3, (0, 3)), (0, (4, 0)), (1, (4, 1)), (2, (0, 338))]) (stN := [(0, 0), (0, 3), (4, 7)]) (hsN := jpA_130) rfl rfl rfl ?_
  refine jT_advK 14 (pcN := 17) (LN := [(3, (0, 4)), (0, (4, 0)), (1, (4, 1)), (2, (0, 338))]) (stN := [(0, 342), (4, 1), (0, 4), (4, 7)]) (hsN := jpA_130) (c1 := 0) (s1 := 0) (c2 := 0) (s2 := 0) (by decide +kernel) ?_ (by omega) (by omega)
  refine jT_iald (x := 0) (a := 1) (j := 342) (fs := []) (X := jS0) (by rfl) (by rfl) (by rfl) (by rfl) (by decide +kernel) ?_
  refine jT_eq (LN := [(3, (0, 4)), (0, (4, 0)), (1, (4, 1)), (2, (0, 338))]) (stN := [(0, 0), (0, 4), (4, 7)]) (hsN := jpA_130) rfl rfl rfl ?_
  refine jT_advK 14 (pcN := 17) (LN := [(3, (0, 5)), (0, (4, 0)), (1, (4, 1)), (2, (0, 338))]) (stN := [(0, 343), (4, 1), (0, 5), (4, 7)]) (hsN := jpA_130) (c1 := 0) (s1 := 0) (c2 := 0) (s2 := 0) (by decide +kernel) ?_ (by omega) (by omega)
  refine jT_iald (x := 0) (a := 1) (j := 343) (fs := []) (X := jS0) (by rfl) (by rfl) (by rfl) (by rfl) (by decide +kernel) ?_
  refine jT_eq (LN := [(3, (0, 5)), (0, (4, 0)), (1, (4, 1)), (2, (0, 338))]) (stN := [(0, 0), (0, 5), (4, 7)]) (hsN := jpA_130) rfl rfl rfl ?_
  refine jT_advK 12 (pcN := 32) (LN := [(3, (0, 6)), (0, (4, 0)), (1, (4, 1)), (2, (0, 338))]) (stN := [(0, 344), (4, 1), (4, 0)]) (hsN := jpA_130) (c1 := 0) (s1 := 0) (c2 := 0) (s2 := 0) (by decide +kernel) ?_ (by omega) (by omega)
  refine jT_iald (x := 1) (a := 1) (j := 344) (fs := []) (X := jS0) (by rfl) (by rfl) (by rfl) (by rfl) (by decide +kernel) ?_
  refine jT_eq (LN := [(3, (0, 6)), (0, (4, 0)), (1, (4, 1)), (2, (0, 338))]) (stN := [(0, 1), (4, 0)]) (hsN := jpA_130) rfl rfl rfl ?_
  refine jT_advK 2 (pcN := 37) (LN := [(3, (0, 6)), (0, (4, 0)), (1, (4, 1)), (2, (0, 338))]) (stN := []) (hsN := jpA_130) (c1 := 0) (s1 := 0) (c2 := 0) (s2 := 0) (by decide +kernel) ?_ (by omega) (by omega)
  exact jT_ret rfl (by decide) (by show 16 ≤ 16; decide) (by omega) (by omega) ⟨rfl, rfl, rfl⟩
theorem jA_245_368 {xs : List Int} {d : Nat} : jT xs d 245 16 0 [(0, (4, 0)), (1, (0, 1))] [] jpA_1545 0 0 (fun k v hsN => k = 0 ∧ v = (0, 1) ∧ hsN = jpA_1545 ++ []) := by
  refine jT_advK 7 (pcN := 12) (LN := [(0, (4, 0)), (1, (0, 1))]) (stN := [(0, 337), (4, 1)]) (hsN := jpA_1545) (c1 := 0) (s1 := 0) (c2 := 0) (s2 := 0) (by decide +kernel) ?_ (by omega) (by omega)
  refine jT_iald (x := 1) (a := 1) (j := 337) (fs := []) (X := jS0) (by rfl) (by rfl) (by rfl) (by rfl) (by decide +kernel) ?_
  refine jT_eq (LN := [(0, (4, 0)), (1, (0, 1))]) (stN := [(0, 1)]) (hsN := jpA_1545) rfl rfl rfl ?_
  exact jT_ret rfl (by decide) (by show 16 ≤ 16; decide) (by omega) (by omega) ⟨rfl, rfl, rfl⟩
def jpA_1644 : List JC := [jzA_1556, (100, [], ((jS0).set 337 1)), (100, [], []), jzA_196, jzA_201, jgh, jgh, jgh, jzA_1539, jgh, jgh, jgh, jgh, jgh, jgh, jgh, (100, [], jS0), jgh, jgh, jgh, jgh, jgh, jgh, jgh]
def jzA_1645 : JC := (100, [], (jcpy (((((((((((((((List.replicate 1792 0)).set 0 0)).set 1 0)).set 2 0)).set 3 0)).set 4 0)).set 5 0)).set 6 1) ((jS0).set 337 1) 0 338 7))
def jpA_1646 : List JC := [jzA_1556, jzA_1645, (100, [], []), jzA_196, jzA_201, jgh, jgh, jgh, jzA_1539, jgh, jgh, jgh, jgh, jgh, jgh, jgh, (100, [], jS0), jgh, jgh, jgh, jgh, jgh, jgh, jgh]
theorem jA_241_369 {xs : List Int} {d : Nat} : jT xs (d + 1) 241 24 0 [(0, (4, 0)), (1, (0, 1))] [] jpA_1558 0 0 (fun k v hsN => k = 0 ∧ v = (0, 1) ∧ hsN = jpA_1646) := by
  refine jT_advK 1 (pcN := 1) (LN := [(0, (4, 0)), (1, (0, 1))]) (stN := [(4, 0)]) (hsN := jpA_1558) (c1 := 0) (s1 := 0) (c2 := 0) (s2 := 0) (by decide +kernel) ?_ (by omega) (by omega)
  refine jT_fB [0, 1, 2, 3, 4, 5, 6, 7, 8, 9, 10, 11, 12, 13, 14, 15, 16, 17, 18, 19, 20, 21, 22, 23] 24 (y := 195) (pcN := 4) (dC := 0) (bc1 := 0) (bc2 := 0) (c1 := 0) (c2 := 0) (as := [(4, 0)]) (asC := [(4, 0)]) (LN := [(0, (4, 0)), (1, (0, 1))]) (stN := []) (hsC := jpA_1554) (hsD := jpA_1557) (v := (9, 0)) (st2 := []) (hs2 := jpA_1559) (jA_195_352 (d := 0)) (by rfl) (by rfl) (by decide +kernel) (by rfl) (by rfl) (by omega) (by omega) (by omega) (by omega) rfl (by decide +kernel) ?_
  refine jT_advK 9 (pcN := 20) (LN := [(0, (4, 0)), (1, (0, 1))]) (stN := [(0, 1), (0, 337), (4, 1)]) (hsN := jpA_1559) (c1 := 0) (s1 := 0) (c2 := 0) (s2 := 0) (by decide +kernel) ?_ (by omega) (by omega)
  refine jT_iast (x := 1) (a := 1) (j := 337) (fs := []) (X := jS0) (by rfl) (by rfl) (by rfl) (by rfl) (by rw [show List.length (jS0 : List Int) = 1613 from jS0_len]; omega) ?_
  refine jT_eq (LN := [(0, (4, 0)), (1, (0, 1))]) (stN := []) (hsN := jpA_1644) rfl rfl rfl ?_
  refine jT_advK 7 (pcN := 32) (LN := [(0, (4, 0)), (1, (0, 1))]) (stN := [(0, 0), (0, 1), (4, 1), (0, 0), (4, 8)]) (hsN := jpA_1644) (c1 := 0) (s1 := 0) (c2 := 0) (s2 := 0) (by decide +kernel) ?_ (by omega) (by omega)
  refine jT_fR [] 24 (y := 242) (pcN := 35) (dC := 0) (bc1 := 0) (bc2 := 0) (c1 := 0) (c2 := 0) (as := [(0, 1), (0, 0)]) (asC := [(0, 1), (0, 0)]) (LN := [(0, (4, 0)), (1, (0, 1))]) (stN := [(4, 1), (0, 0), (4, 8)]) (hsC := []) (v := (0, 338)) (st2 := [(0, 338), (4, 1), (0, 0), (4, 8)]) (jA_242_364 (d := 0)) (by rfl) (by rfl) (by decide +kernel) (by rfl) (by rfl) (by omega) (by omega) (by omega) (by omega) rfl ?_
  refine jT_advK 4 (pcN := 42) (LN := [(0, (4, 0)), (1, (0, 1))]) (stN := [(0, 7), (0, 338), (4, 1), (0, 0), (4, 8)]) (hsN := jpA_1644) (c1 := 0) (s1 := 0) (c2 := 0) (s2 := 0) (by decide +kernel) ?_ (by omega) (by omega)
  refine jT_cpy (a := 8) (b := 1) (s0 := 0) (d0 := 338) (n := 7) (k := 100) (X := (((((((((((((((List.replicate 1792 0)).set 0 0)).set 1 0)).set 2 0)).set 3 0)).set 4 0)).set 5 0)).set 6 1)) (Y := ((jS0).set 337 1)) (by rfl) (by rfl) (by rfl) (by rfl) (by rfl) (by rfl) (by rfl) (by decide) (by decide) (by decide) (by rw [show List.length ((((((((((((((((List.replicate 1792 0)).set 0 0)).set 1 0)).set 2 0)).set 3 0)).set 4 0)).set 5 0)).set 6 1) : List Int) = 1792 from by rw [List.length_set, List.length_set, List.length_set, List.length_set, List.length_set, List.length_set, List.length_set]; exact (List.length_replicate)]; decide) (by rw [show List.length (((jS0).set 337 1) : List Int) = 1613 from by rw [List.length_set]; exact (jS0_len)]; omega) ?_
  refine jT_eq (LN := [(0, (4, 0)), (1, (0, 1))]) (stN := []) (hsN := jpA_1646) rfl rfl rfl ?_
  refine jT_advK 2 (pcN := 49) (LN := [(0, (4, 0)), (1, (0, 1))]) (stN := [(0, 1)]) (hsN := jpA_1646) (c1 := 0) (s1 := 0) (c2 := 0) (s2 := 0) (by decide +kernel) ?_ (by omega) (by omega)
  exact jT_ret rfl (by decide) (by show 24 ≤ 24; decide) (by omega) (by omega) ⟨rfl, rfl, rfl⟩
def jpA_1647 : List JC := [jzA_1556, jzA_1645, (100, [], []), jzA_196, jzA_201, jgh, (130, [], [24, 25, 26, 27, 28, 29]), (101, [], [0, 0, 0, 0, 0, 0]), jzA_1539, jgh, jgh, jgh, jgh, jgh, jgh, jgh, (100, [], jS0), jgh, jgh, jgh, jgh, jgh, jgh, jgh, (100, [], (jenc (jlg 0))), jgh, jgh, jgh, jgh, jgh, (101, [], [0, 0, 0, 0, 0, 0]), (101, [], [(-1), 0, 0, 0, 0, 0]), (100, [], (jenc 0)), (100, [], (jenc (-1))), (100, [], (jenc ((-1) * (jlg 0)))), (100, [], [0, 0, 0, 0, 0, 0, 1]), (101, [], [0, 0, 0, 0, 0, 0])]
theorem jA_243_370 {xs : List Int} {d : Nat} {x2 : Int} (h_x2 : 0 ≤ x2 ∧ x2 ≤ 7) : jT xs (d + 7) 243 30 0 [(0, (4, 0)), (1, (0, 1)), (2, (0, x2)), (3, (0, 1))] [] jpA_1632 7 193 (fun k v hsN => k = 0 ∧ v = (0, 1) ∧ hsN = jpA_1647) := by
  refine jT_xaload_n (v := (4, 0)) (pcN := 1) jI_243_0 rfl rfl rfl ?_
  refine jT_xiload_n (v := (0, 1)) (pcN := 2) jI_243_1 rfl rfl rfl ?_
  refine jT_fR [] 30 (y := 238) (pcN := 5) (dC := 1) (bc1 := 0) (bc2 := 0) (c1 := 7) (c2 := 193) (as := [(0, 1)]) (asC := [(0, 1)]) (LN := [(0, (4, 0)), (1, (0, 1)), (2, (0, x2)), (3, (0, 1))]) (stN := [(4, 0)]) (hsC := []) (v := (0, 1)) (st2 := [(0, 1), (4, 0)]) (jA_238_362 (d := 0)) (by rfl) (by rfl) (by decide +kernel) (by rfl) (by rfl) (by omega) (by omega) (by omega) (by omega) rfl ?_
  refine jT_xifF (t := 19) (pcN := 8) jI_243_5 rfl (by decide +kernel) rfl rfl ?_
  refine jT_xiload_n (v := (0, x2)) (pcN := 9) jI_243_8 rfl rfl rfl ?_
  refine jT_fR [] 30 (y := 188) (pcN := 12) (dC := 1) (bc1 := 0) (bc2 := 0) (c1 := 7) (c2 := 193) (as := [(0, x2)]) (asC := [(0, x2)]) (LN := [(0, (4, 0)), (1, (0, 1)), (2, (0, x2)), (3, (0, 1))]) (stN := [(4, 0)]) (hsC := []) (v := (0, 1)) (st2 := [(0, 1), (4, 0)]) (jA_188_20 (d := 0) (by omega)) (by rfl) (by rfl) (by decide +kernel) (by rfl) (by rfl) (by omega) (by omega) (by omega) (by omega) rfl ?_
  refine jT_xifF (t := 19) (pcN := 15) jI_243_12 rfl (by decide +kernel) rfl rfl ?_
  refine jT_xiconst (k := 1) (pcN := 16) jI_243_15 rfl ?_
  refine jT_xgoto (pcN := 20) jI_243_16 rfl ?_
  refine jT_fR [0, 1, 2, 3, 4, 5, 6, 7, 8, 9, 10, 11, 12, 13, 14, 15] 30 (y := 190) (pcN := 23) (dC := 1) (bc1 := 0) (bc2 := 0) (c1 := 7) (c2 := 193) (as := [(4, 0), (0, 1)]) (asC := [(4, 0), (0, 1)]) (LN := [(0, (4, 0)), (1, (0, 1)), (2, (0, x2)), (3, (0, 1))]) (stN := []) (hsC := jpA_22) (v := (0, 0)) (st2 := [(0, 0)]) (jA_190_39 (d := 0)) (by rfl) (by rfl) (by decide +kernel) (by rfl) (by rfl) (by omega) (by omega) (by omega) (by omega) rfl ?_
  refine jT_xifT (pcN := 28) jI_243_23 rfl (by decide +kernel) rfl ?_
  refine jT_xaload_n (v := (4, 0)) (pcN := 29) jI_243_28 rfl rfl rfl ?_
  refine jT_xiload_n (v := (0, x2)) (pcN := 30) jI_243_29 rfl rfl rfl ?_
  refine jT_fR [0, 1, 2, 3, 4, 5, 6, 7, 8, 9, 10, 11, 12, 13, 14, 15] 30 (y := 202) (pcN := 33) (dC := 1) (bc1 := 0) (bc2 := 0) (c1 := 7) (c2 := 193) (as := [(4, 0), (0, x2)]) (asC := [(4, 0), (0, x2)]) (LN := [(0, (4, 0)), (1, (0, 1)), (2, (0, x2)), (3, (0, 1))]) (stN := []) (hsC := jpA_130) (v := (9, 0)) (st2 := []) (jA_202_41 (d := 0) (by omega)) (by rfl) (by rfl) (by decide +kernel) (by rfl) (by rfl) (by omega) (by omega) (by omega) (by omega) rfl ?_
  refine jT_xaload_n (v := (4, 0)) (pcN := 34) jI_243_33 rfl rfl rfl ?_
  refine jT_fA [0, 1, 2, 3, 4, 5, 6, 7, 8, 9, 10, 11, 12, 13, 14, 15, 24, 25, 26, 27, 28, 29] 30 (y := 209) (pcN := 37) (dC := 6) (bc1 := 5) (bc2 := 180) (c1 := 2) (c2 := 13) (as := [(4, 0)]) (asC := [(4, 0)]) (LN := [(0, (4, 0)), (1, (0, 1)), (2, (0, x2)), (3, (0, 1))]) (stN := []) (hsC := jpA_684) (ex := jpA_683) (v := (1, 0)) (st2 := [(1, 0)]) (hs2 := jpA_1568) (jA_209_159 (d := 0)) (by rfl) (by rfl) (by decide +kernel) (by rfl) (by rfl) (by omega) (by omega) (by omega) (by omega) rfl (by decide +kernel) ?_
  refine jT_xlstore (v := (1, 0)) (LN := [(4, (1, 0)), (0, (4, 0)), (1, (0, 1)), (2, (0, x2)), (3, (0, 1))]) (pcN := 39) jI_243_37 rfl rfl rfl rfl ?_
  refine jT_xaload_n (v := (4, 0)) (pcN := 40) jI_243_39 rfl rfl rfl ?_
  refine jT_xiload_n (v := (0, 1)) (pcN := 41) jI_243_40 rfl rfl rfl ?_
  refine jT_fR [0, 1, 2, 3, 4, 5, 6, 7, 8, 9, 10, 11, 12, 13, 14, 15] 35 (y := 244) (pcN := 44) (dC := 1) (bc1 := 0) (bc2 := 0) (c1 := 2) (c2 := 13) (as := [(4, 0), (0, 1)]) (asC := [(4, 0), (0, 1)]) (LN := [(4, (1, 0)), (0, (4, 0)), (1, (0, 1)), (2, (0, x2)), (3, (0, 1))]) (stN := []) (hsC := jpA_130) (v := (0, 1)) (st2 := [(0, 1)]) (jA_244_366 (d := 0)) (by rfl) (by rfl) (by decide +kernel) (by rfl) (by rfl) (by omega) (by omega) (by omega) (by omega) rfl ?_
  refine jT_xistore (v := (0, 1)) (LN := [(6, (0, 1)), (4, (1, 0)), (0, (4, 0)), (1, (0, 1)), (2, (0, x2)), (3, (0, 1))]) (pcN := 46) jI_243_44 rfl rfl rfl rfl ?_
  refine jT_xiload_n (v := (0, 1)) (pcN := 47) jI_243_46 rfl rfl rfl ?_
  refine jT_xifF (t := 73) (pcN := 50) jI_243_47 rfl (by decide +kernel) rfl rfl ?_
  refine jT_xiload (v := (0, 1)) (pcN := 52) jI_243_50 rfl rfl rfl ?_
  refine jT_xifT (pcN := 65) jI_243_52 rfl (by decide +kernel) rfl ?_
  refine jT_xiconst (k := 1) (pcN := 66) jI_243_65 rfl ?_
  refine jT_xgoto (pcN := 92) jI_243_66 rfl ?_
  refine jT_xistore (v := (0, 1)) (LN := [(7, (0, 1)), (6, (0, 1)), (4, (1, 0)), (0, (4, 0)), (1, (0, 1)), (2, (0, x2)), (3, (0, 1))]) (pcN := 94) jI_243_92 rfl rfl rfl rfl ?_
  refine jT_xaload_n (v := (4, 0)) (pcN := 95) jI_243_94 rfl rfl rfl ?_
  refine jT_xiload (v := (0, 1)) (pcN := 97) jI_243_95 rfl rfl rfl ?_
  refine jT_xiconst (k := 2) (pcN := 98) jI_243_97 rfl ?_
  refine jT_fR [0] 35 (y := 191) (pcN := 101) (dC := 0) (bc1 := 0) (bc2 := 0) (c1 := 2) (c2 := 13) (as := [(4, 0), (0, 1), (0, 2)]) (asC := [(4, 0), (0, 1), (0, 2)]) (LN := [(7, (0, 1)), (6, (0, 1)), (4, (1, 0)), (0, (4, 0)), (1, (0, 1)), (2, (0, x2)), (3, (0, 1))]) (stN := []) (hsC := [jgh]) (v := (0, 0)) (st2 := [(0, 0)]) (jA_191_49 (d := 0)) (by rfl) (by rfl) (by decide +kernel) (by rfl) (by rfl) (by omega) (by omega) (by omega) (by omega) rfl ?_
  refine jT_xifF (t := 137) (pcN := 104) jI_243_101 rfl (by decide +kernel) rfl rfl ?_
  refine jT_xaload_n (v := (4, 0)) (pcN := 105) jI_243_104 rfl rfl rfl ?_
  refine jT_xiload_n (v := (0, 1)) (pcN := 106) jI_243_105 rfl rfl rfl ?_
  refine jT_xifF (t := 125) (pcN := 109) jI_243_106 rfl (by decide +kernel) rfl rfl ?_
  refine jT_xaload_n (v := (4, 0)) (pcN := 110) jI_243_109 rfl rfl rfl ?_
  refine jT_fR [0, 1, 2, 3, 4, 5, 6, 7, 8, 9, 10, 11, 12, 13, 14, 15] 35 (y := 205) (pcN := 113) (dC := 1) (bc1 := 0) (bc2 := 0) (c1 := 2) (c2 := 13) (as := [(4, 0)]) (asC := [(4, 0)]) (LN := [(7, (0, 1)), (6, (0, 1)), (4, (1, 0)), (0, (4, 0)), (1, (0, 1)), (2, (0, x2)), (3, (0, 1))]) (stN := [(4, 0)]) (hsC := jpA_147) (v := (0, 1)) (st2 := [(0, 1), (4, 0)]) (jA_205_48 (d := 0)) (by rfl) (by rfl) (by decide +kernel) (by rfl) (by rfl) (by omega) (by omega) (by omega) (by omega) rfl ?_
  refine jT_xifF (t := 129) (pcN := 116) jI_243_113 rfl (by decide +kernel) rfl rfl ?_
  refine jT_xlload (v := (1, 0)) (pcN := 118) jI_243_116 rfl rfl rfl ?_
  refine jT_adv 1 (pcN := 121) (LN := [(7, (0, 1)), (6, (0, 1)), (4, (1, 0)), (0, (4, 0)), (1, (0, 1)), (2, (0, x2)), (3, (0, 1))]) (stN := [(1, (-2147483648)), (1, 0), (4, 0)]) (hsN := jpA_1568) (c1 := 0) (s1 := 0) (c2 := 2) (s2 := 13) (by exact rfl) ?_ (by omega) (by omega)
  refine jT_lcmp (a := 0) (b := (-2147483648)) (z := 1) (by rfl) (by rfl) (by decide +kernel) (by decide +kernel) (by decide) ?_
  refine jT_xifF (t := 129) (pcN := 125) jI_243_122 rfl (by decide +kernel) rfl rfl ?_
  refine jT_xiconst (k := 1) (pcN := 126) jI_243_125 rfl ?_
  refine jT_xgoto (pcN := 130) jI_243_126 rfl ?_
  refine jT_xiconst (k := 3) (pcN := 131) jI_243_130 rfl ?_
  refine jT_fR [0] 35 (y := 191) (pcN := 134) (dC := 0) (bc1 := 0) (bc2 := 0) (c1 := 2) (c2 := 13) (as := [(4, 0), (0, 1), (0, 3)]) (asC := [(4, 0), (0, 1), (0, 3)]) (LN := [(7, (0, 1)), (6, (0, 1)), (4, (1, 0)), (0, (4, 0)), (1, (0, 1)), (2, (0, x2)), (3, (0, 1))]) (stN := []) (hsC := [jgh]) (v := (0, 0)) (st2 := [(0, 0)]) (jA_191_117 (d := 0)) (by rfl) (by rfl) (by decide +kernel) (by rfl) (by rfl) (by omega) (by omega) (by omega) (by omega) rfl ?_
  refine jT_xifT (pcN := 139) jI_243_134 rfl (by decide +kernel) rfl ?_
  refine jT_xbipush (k := 7) (pcN := 141) jI_243_139 (by decide) rfl ?_
  refine jT_adv 1 (pcN := 143) (LN := [(7, (0, 1)), (6, (0, 1)), (4, (1, 0)), (0, (4, 0)), (1, (0, 1)), (2, (0, x2)), (3, (0, 1))]) (stN := [(4, 35)]) (hsN := jpA_1596) (c1 := 1) (s1 := 7) (c2 := 1) (s2 := 6) (by exact rfl) ?_ (by omega) (by omega)
  refine jT_xastore (v := (4, 35)) (LN := [(8, (4, 35)), (7, (0, 1)), (6, (0, 1)), (4, (1, 0)), (0, (4, 0)), (1, (0, 1)), (2, (0, x2)), (3, (0, 1))]) (pcN := 145) jI_243_143 rfl rfl rfl rfl ?_
  refine jT_xaload_n (v := (4, 0)) (pcN := 146) jI_243_145 rfl rfl rfl ?_
  refine jT_xaload (v := (4, 35)) (pcN := 148) jI_243_146 rfl rfl rfl ?_
  refine jT_xiconst (k := 0) (pcN := 149) jI_243_148 rfl ?_
  refine jT_fB [0, 35, 1, 2, 3, 4, 5, 6, 7, 8, 9, 10, 11, 12, 13, 14, 15] 36 (y := 197) (pcN := 152) (dC := 0) (bc1 := 0) (bc2 := 0) (c1 := 1) (c2 := 6) (as := [(4, 0), (4, 35), (0, 0)]) (asC := [(4, 0), (4, 1), (0, 0)]) (LN := [(8, (4, 35)), (7, (0, 1)), (6, (0, 1)), (4, (1, 0)), (0, (4, 0)), (1, (0, 1)), (2, (0, x2)), (3, (0, 1))]) (stN := []) (hsC := jpA_1524) (hsD := jpA_1523) (v := (9, 0)) (st2 := []) (hs2 := jpA_1601) (jA_197_343 (d := 0)) (by rfl) (by rfl) (by decide +kernel) (by rfl) (by rfl) (by omega) (by omega) (by omega) (by omega) rfl (by decide +kernel) ?_
  refine jT_xaload_n (v := (4, 0)) (pcN := 153) jI_243_152 rfl rfl rfl ?_
  refine jT_xiconst (k := 0) (pcN := 154) jI_243_153 rfl ?_
  refine jT_adv 1 (pcN := 157) (LN := [(8, (4, 35)), (7, (0, 1)), (6, (0, 1)), (4, (1, 0)), (0, (4, 0)), (1, (0, 1)), (2, (0, x2)), (3, (0, 1))]) (stN := []) (hsN := jpA_1601) (c1 := 0) (s1 := 0) (c2 := 1) (s2 := 6) (by exact rfl) ?_ (by omega) (by omega)
  refine jT_xiconst (k := 0) (pcN := 158) jI_243_157 rfl ?_
  refine jT_xistore (v := (0, 0)) (LN := [(9, (0, 0)), (8, (4, 35)), (7, (0, 1)), (6, (0, 1)), (4, (1, 0)), (0, (4, 0)), (1, (0, 1)), (2, (0, x2)), (3, (0, 1))]) (pcN := 160) jI_243_158 rfl rfl rfl rfl ?_
  refine jT_xiload (v := (0, 0)) (pcN := 162) jI_243_160 rfl rfl rfl ?_
  refine jT_xaload_n (v := (4, 0)) (pcN := 163) jI_243_162 rfl rfl rfl ?_
  refine jT_xiload_n (v := (0, 1)) (pcN := 164) jI_243_163 rfl rfl rfl ?_
  refine jT_fR [0, 1, 2, 3, 4, 5, 6, 7, 8, 9, 10, 11, 12, 13, 14, 15] 36 (y := 245) (pcN := 167) (dC := 0) (bc1 := 0) (bc2 := 0) (c1 := 1) (c2 := 6) (as := [(4, 0), (0, 1)]) (asC := [(4, 0), (0, 1)]) (LN := [(9, (0, 0)), (8, (4, 35)), (7, (0, 1)), (6, (0, 1)), (4, (1, 0)), (0, (4, 0)), (1, (0, 1)), (2, (0, x2)), (3, (0, 1))]) (stN := [(0, 0)]) (hsC := jpA_1519) (v := (0, 1)) (st2 := [(0, 1), (0, 0)]) (jA_245_363 (d := 0)) (by rfl) (by rfl) (by decide +kernel) (by rfl) (by rfl) (by omega) (by omega) (by omega) (by omega) rfl ?_
  refine jT_xicF (t := 208) (pcN := 170) jI_243_167 rfl (by decide +kernel) rfl rfl ?_
  refine jT_xaload_n (v := (4, 0)) (pcN := 171) jI_243_170 rfl rfl rfl ?_
  refine jT_xaload_n (v := (4, 0)) (pcN := 172) jI_243_171 rfl rfl rfl ?_
  refine jT_xgetf (a := 0) (t := 1) (ci := 14) (fi := 1) (c := jzA_21) (v := (4, 1)) (pcN := 175) jI_243_172 rfl rfl rfl rfl rfl rfl rfl ?_
  refine jT_xiload_n (v := (0, 1)) (pcN := 176) jI_243_175 rfl rfl rfl ?_
  refine jT_xiload (v := (0, 0)) (pcN := 178) jI_243_176 rfl rfl rfl ?_
  refine jT_fR [] 36 (y := 242) (pcN := 181) (dC := 0) (bc1 := 0) (bc2 := 0) (c1 := 1) (c2 := 6) (as := [(0, 1), (0, 0)]) (asC := [(0, 1), (0, 0)]) (LN := [(9, (0, 0)), (8, (4, 35)), (7, (0, 1)), (6, (0, 1)), (4, (1, 0)), (0, (4, 0)), (1, (0, 1)), (2, (0, x2)), (3, (0, 1))]) (stN := [(4, 1), (4, 0)]) (hsC := []) (v := (0, 338)) (st2 := [(0, 338), (4, 1), (4, 0)]) (jA_242_364 (d := 0)) (by rfl) (by rfl) (by decide +kernel) (by rfl) (by rfl) (by omega) (by omega) (by omega) (by omega) rfl ?_
  refine jT_fR [0, 1, 2, 3, 4, 5, 6, 7, 8, 9, 10, 11, 12, 13, 14, 15] 36 (y := 203) (pcN := 184) (dC := 0) (bc1 := 0) (bc2 := 0) (c1 := 1) (c2 := 6) (as := [(4, 0), (4, 1), (0, 338)]) (asC := [(4, 0), (4, 1), (0, 338)]) (LN := [(9, (0, 0)), (8, (4, 35)), (7, (0, 1)), (6, (0, 1)), (4, (1, 0)), (0, (4, 0)), (1, (0, 1)), (2, (0, x2)), (3, (0, 1))]) (stN := []) (hsC := jpA_130) (v := (9, 0)) (st2 := []) (jA_203_367 (d := 0)) (by rfl) (by rfl) (by decide +kernel) (by rfl) (by rfl) (by omega) (by omega) (by omega) (by omega) rfl ?_
  refine jT_xiload_n (v := (0, 1)) (pcN := 185) jI_243_184 rfl rfl rfl ?_
  refine jT_xifT (pcN := 198) jI_243_185 rfl (by decide +kernel) rfl ?_
  refine jT_xaload_n (v := (4, 0)) (pcN := 199) jI_243_198 rfl rfl rfl ?_
  refine jT_fB [0, 1, 2, 3, 4, 5, 6, 7, 8, 9, 10, 11, 12, 13, 14, 15] 36 (y := 239) (pcN := 202) (dC := 1) (bc1 := 0) (bc2 := 0) (c1 := 1) (c2 := 6) (as := [(4, 0)]) (asC := [(4, 0)]) (LN := [(9, (0, 0)), (8, (4, 35)), (7, (0, 1)), (6, (0, 1)), (4, (1, 0)), (0, (4, 0)), (1, (0, 1)), (2, (0, x2)), (3, (0, 1))]) (stN := []) (hsC := jpA_1541) (hsD := jpA_1544) (v := (9, 0)) (st2 := []) (hs2 := jpA_1618) (jA_239_346 (d := 0)) (by rfl) (by rfl) (by decide +kernel) (by rfl) (by rfl) (by omega) (by omega) (by omega) (by omega) rfl (by decide +kernel) ?_
  refine jT_xiinc (x := 0) (z := 1) (LN := [(9, (0, 1)), (8, (4, 35)), (7, (0, 1)), (6, (0, 1)), (4, (1, 0)), (0, (4, 0)), (1, (0, 1)), (2, (0, x2)), (3, (0, 1))]) (pcN := 205) jI_243_202 rfl rfl (by decide) rfl rfl ?_
  refine jT_xgoto (pcN := 160) jI_243_205 rfl ?_
  refine jT_xiload (v := (0, 1)) (pcN := 162) jI_243_160 rfl rfl rfl ?_
  refine jT_xaload_n (v := (4, 0)) (pcN := 163) jI_243_162 rfl rfl rfl ?_
  refine jT_xiload_n (v := (0, 1)) (pcN := 164) jI_243_163 rfl rfl rfl ?_
  refine jT_fR [0, 1, 2, 3, 4, 5, 6, 7, 8, 9, 10, 11, 12, 13, 14, 15] 36 (y := 245) (pcN := 167) (dC := 0) (bc1 := 0) (bc2 := 0) (c1 := 1) (c2 := 6) (as := [(4, 0), (0, 1)]) (asC := [(4, 0), (0, 1)]) (LN := [(9, (0, 1)), (8, (4, 35)), (7, (0, 1)), (6, (0, 1)), (4, (1, 0)), (0, (4, 0)), (1, (0, 1)), (2, (0, x2)), (3, (0, 1))]) (stN := [(0, 1)]) (hsC := jpA_1545) (v := (0, 1)) (st2 := [(0, 1), (0, 1)]) (jA_245_368 (d := 0)) (by rfl) (by rfl) (by decide +kernel) (by rfl) (by rfl) (by omega) (by omega) (by omega) (by omega) rfl ?_
  refine jT_xicT (pcN := 208) jI_243_167 rfl (by decide +kernel) rfl ?_
  refine jT_xaload_n (v := (4, 0)) (pcN := 209) jI_243_208 rfl rfl rfl ?_
  refine jT_xaload (v := (4, 35)) (pcN := 211) jI_243_209 rfl rfl rfl ?_
  refine jT_xiconst (k := 0) (pcN := 212) jI_243_211 rfl ?_
  refine jT_fR [0, 35, 1, 2, 3, 4, 5, 6, 7, 8, 9, 10, 11, 12, 13, 14, 15] 36 (y := 203) (pcN := 215) (dC := 0) (bc1 := 0) (bc2 := 0) (c1 := 1) (c2 := 6) (as := [(4, 0), (4, 35), (0, 0)]) (asC := [(4, 0), (4, 1), (0, 0)]) (LN := [(9, (0, 1)), (8, (4, 35)), (7, (0, 1)), (6, (0, 1)), (4, (1, 0)), (0, (4, 0)), (1, (0, 1)), (2, (0, x2)), (3, (0, 1))]) (stN := []) (hsC := jpA_1547) (v := (9, 0)) (st2 := []) (jA_203_348 (d := 0)) (by rfl) (by rfl) (by decide +kernel) (by rfl) (by rfl) (by omega) (by omega) (by omega) (by omega) rfl ?_
  refine jT_xiload_n (v := (0, 1)) (pcN := 216) jI_243_215 rfl rfl rfl ?_
  refine jT_xifF (t := 223) (pcN := 219) jI_243_216 rfl (by decide +kernel) rfl rfl ?_
  refine jT_xaload_n (v := (4, 0)) (pcN := 220) jI_243_219 rfl rfl rfl ?_
  refine jT_fA [0, 1, 2, 3, 4, 5, 6, 7, 8, 9, 10, 11, 12, 13, 14, 15] 36 (y := 239) (pcN := 223) (dC := 3) (bc1 := 1) (bc2 := 6) (c1 := 0) (c2 := 0) (as := [(4, 0)]) (asC := [(4, 0)]) (LN := [(9, (0, 1)), (8, (4, 35)), (7, (0, 1)), (6, (0, 1)), (4, (1, 0)), (0, (4, 0)), (1, (0, 1)), (2, (0, x2)), (3, (0, 1))]) (stN := []) (hsC := jpA_1544) (ex := [(101, [], [0, 0, 0, 0, 0, 0])]) (v := (9, 0)) (st2 := []) (hs2 := jpA_1627) (jA_239_351 (d := 0)) (by rfl) (by rfl) (by decide +kernel) (by rfl) (by rfl) (by omega) (by omega) (by omega) (by omega) rfl (by decide +kernel) ?_
  refine jT_xaload_n (v := (4, 0)) (pcN := 224) jI_243_223 rfl rfl rfl ?_
  refine jT_xiload_n (v := (0, 1)) (pcN := 225) jI_243_224 rfl rfl rfl ?_
  refine jT_fB [0, 1, 2, 3, 4, 5, 6, 7, 8, 9, 10, 11, 12, 13, 14, 15, 16, 17, 18, 19, 20, 21, 22, 23] 37 (y := 241) (pcN := 228) (dC := 1) (bc1 := 0) (bc2 := 0) (c1 := 0) (c2 := 0) (as := [(4, 0), (0, 1)]) (asC := [(4, 0), (0, 1)]) (LN := [(9, (0, 1)), (8, (4, 35)), (7, (0, 1)), (6, (0, 1)), (4, (1, 0)), (0, (4, 0)), (1, (0, 1)), (2, (0, x2)), (3, (0, 1))]) (stN := []) (hsC := jpA_1558) (hsD := jpA_1646) (v := (0, 1)) (st2 := [(0, 1)]) (hs2 := jpA_1647) (jA_241_369 (d := 0)) (by rfl) (by rfl) (by decide +kernel) (by rfl) (by rfl) (by omega) (by omega) (by omega) (by omega) rfl (by decide +kernel) ?_
  refine jT_adv 1 (pcN := 229) (LN := [(9, (0, 1)), (8, (4, 35)), (7, (0, 1)), (6, (0, 1)), (4, (1, 0)), (0, (4, 0)), (1, (0, 1)), (2, (0, x2)), (3, (0, 1))]) (stN := []) (hsN := jpA_1647) (c1 := 0) (s1 := 0) (c2 := 0) (s2 := 0) (by exact rfl) ?_ (by omega) (by omega)
  refine jT_xiload (v := (0, 1)) (pcN := 231) jI_243_229 rfl rfl rfl ?_
  exact jT_ret rfl (by decide) (by show 30 ≤ 37; decide) (by omega) (by omega) ⟨rfl, rfl, rfl⟩
theorem jA_115_371 {xs : List Int} {d : Nat} {x1 : Int} (h_x1 : 2 ≤ x1 ∧ x1 ≤ 3) : jT xs d 115 1 0 [(0, (4, 0)), (1, (0, x1)), (2, (0, 4))] [] [jgh] 0 0 (fun k v hsN => k = 0 ∧ v = (9, 0) ∧ hsN = [jgh] ++ []) := by
  refine jT_xiload_n (v := (0, x1)) (pcN := 1) jI_115_0 rfl rfl rfl ?_
  refine jT_ifF (a := x1) (t := 9) (by rfl) (by rfl) (by rfl) (jw_idd (by omega) (by omega)) (by simp only [jcP] <;> omega) ?_
  refine jT_xiload_n (v := (0, x1)) (pcN := 5) jI_115_4 rfl rfl rfl ?_
  refine jT_xiload_n (v := (0, 4)) (pcN := 6) jI_115_5 rfl rfl rfl ?_
  refine jT_icT (a := x1) (b := 4) (t := 20) (by rfl) (by rfl) (by rfl) (jw_idd (by omega) (by omega)) (jw_idd (by omega) (by omega)) (by simp only [jcP] <;> omega) ?_
  exact jT_ret rfl (by decide) (by show 1 ≤ 1; decide) (by omega) (by omega) ⟨rfl, rfl, rfl⟩
theorem jA_115_372 {xs : List Int} {d : Nat} : jT xs d 115 1 0 [(0, (4, 0)), (1, (0, 2)), (2, (0, 4))] [] [jgh] 0 0 (fun k v hsN => k = 0 ∧ v = (9, 0) ∧ hsN = [jgh] ++ []) := by
  refine jT_advK 5 (pcN := 20) (LN := [(0, (4, 0)), (1, (0, 2)), (2, (0, 4))]) (stN := []) (hsN := [jgh]) (c1 := 0) (s1 := 0) (c2 := 0) (s2 := 0) (by decide +kernel) ?_ (by omega) (by omega)
  exact jT_ret rfl (by decide) (by show 1 ≤ 1; decide) (by omega) (by omega) ⟨rfl, rfl, rfl⟩
theorem jA_56_373 {xs : List Int} {d : Nat} : jT xs d 56 10 0 [(0, (4, 0)), (1, (0, 2))] [] jpA_1446 0 0 (fun k v hsN => k = 0 ∧ v = (4, 8) ∧ hsN = jpA_1446 ++ []) := by
  refine jT_advK 4 (pcN := 6) (LN := [(0, (4, 0)), (1, (0, 2))]) (stN := [(4, 8)]) (hsN := jpA_1446) (c1 := 0) (s1 := 0) (c2 := 0) (s2 := 0) (by decide +kernel) ?_ (by omega) (by omega)
  exact jT_ret rfl (by decide) (by show 10 ≤ 10; decide) (by omega) (by omega) ⟨rfl, rfl, rfl⟩
def jpA_1648 : List JC := [jzA_55, (7, [(4, 7), (4, (-1)), (4, (-1))], []), jgh, (117, [], [8, 9, 10, 11]), jgh, jgh, jgh, jgh, jgh, jgh, jgh, jgh, (117, [], [8, 9, 1, 11]), jzA_51]
def jpA_1649 : List JC := [jzA_55, (7, [(4, 7), (4, (-1)), (4, (-1))], []), jgh, (117, [], [8, 9, 10, 11]), jgh, jgh, jgh, jgh, jgh, jgh, jgh, jgh, (117, [], [8, 9, 1, 11]), jzA_1459]
theorem jA_60_374 {xs : List Int} {d : Nat} : jT xs (d + 1) 60 12 0 [(0, (4, 0)), (1, (0, 2)), (2, (4, 1))] [] jpA_1461 2 9 (fun k v hsN => k = 0 ∧ v = (4, 13) ∧ hsN = jpA_1461 ++ [(117, [], [8, 9, 1, 11]), jzA_1459]) := by
  refine jT_advK 20 (pcN := 36) (LN := [(3, (4, 12)), (0, (4, 0)), (1, (0, 2)), (2, (4, 1))]) (stN := [(4, 6), (4, 5), (4, 4), (4, 12), (4, 2), (4, 13), (4, 13)]) (hsN := jpA_1648) (c1 := 2) (s1 := 9) (c2 := 0) (s2 := 0) (by decide +kernel) ?_ (by omega) (by omega)
  refine jT_fB [13, 2, 12, 4, 5, 6] 14 (y := 53) (pcN := 39) (dC := 0) (bc1 := 0) (bc2 := 0) (c1 := 0) (c2 := 0) (as := [(4, 13), (4, 2), (4, 12), (4, 4), (4, 5), (4, 6)]) (asC := [(4, 0), (4, 1), (4, 2), (4, 3), (4, 4), (4, 5)]) (LN := [(3, (4, 12)), (0, (4, 0)), (1, (0, 2)), (2, (4, 1))]) (stN := [(4, 13)]) (hsC := jpA_52) (hsD := jpA_50) (v := (9, 0)) (st2 := [(4, 13)]) (hs2 := jpA_1649) (jA_53_32 (d := 0)) (by rfl) (by rfl) (by decide +kernel) (by rfl) (by rfl) (by omega) (by omega) (by omega) (by omega) rfl (by decide +kernel) ?_
  exact jT_ret rfl (by decide) (by show 12 ≤ 14; decide) (by omega) (by omega) ⟨rfl, rfl, rfl⟩
def jpA_1650 : List JC := [jzA_5, (8, [(4, 12), (4, 13)], []), jgh, jgh, jgh, jgh, jgh, jgh, (101, [], [0, 0, 0, 0, 0, 0]), jgh, jzA_79, jzA_640, jgh, (101, [], [0, 0, 0, 0, 0, 0]), jzA_641, (117, [], [20, 21, 22, 23]), jgh, jgh, jgh, (4, [(4, 24), (1, 1)], []), jgh, jgh, (7, [(4, 25), (4, (-1)), (4, (-1))], []), jgh, (101, [], [0, 0, 0, 0, 0, 0]), (114, [], [19]), (101, [], [0, 0, 0, 0, 0, 0]), (4, [(4, 26), (1, 1)], [])]
def jpA_1651 : List JC := [jzA_5, (8, [(4, 12), (4, 13)], []), jgh, jgh, jgh, jgh, jgh, jgh, (101, [], [0, 0, 0, 0, 0, 0]), jgh, jzA_79, jzA_640, jgh, (101, [], [0, 0, 0, 0, 0, 0]), jzA_641, (117, [], [20, 21, 22, 23]), jgh, jgh, jgh, (4, [(4, 24), (1, 1)], []), jgh, jgh, (7, [(4, 25), (4, (-1)), (4, (-1))], []), jgh, (101, [], [0, 0, 0, 0, 0, 0]), (114, [], [19]), (101, [], [0, 0, 0, 0, 0, 0]), (4, [(4, 26), (1, 1)], []), (114, [], [19, (-1)]), (114, [], [19]), (7, [(4, 29), (4, (-1)), (4, (-1))], [])]
def jpA_1652 : List JC := [jzA_5, (8, [(4, 12), (4, 13)], []), jgh, jgh, jgh, jgh, jgh, jgh, (101, [], [0, 0, 0, 0, 0, 0]), jgh, jzA_79, jzA_640, jgh, (101, [], [0, 0, 0, 0, 0, 0]), jzA_641, (117, [], [20, 21, 22, 23]), jgh, jgh, jgh, (4, [(4, 24), (1, 1)], []), jgh, jgh, (7, [(4, 25), (4, (-1)), (4, (-1))], []), jgh, (101, [], [0, 0, 0, 0, 0, 0]), (114, [], [19]), (101, [], [0, 0, 0, 0, 0, 0]), (4, [(4, 26), (1, 1)], []), (114, [], [19, (-1)]), (114, [], [19]), (7, [(4, 29), (4, (-1)), (4, (-1))], []), (117, [], [20, 21, 30, 23]), jzA_1500]
def jpA_1653 : List JC := [jzA_1502, (8, [(4, 12), (4, 13)], []), jgh, jgh, jgh, jgh, jgh, jgh, (101, [], [0, 0, 0, 0, 0, 0]), jgh, jzA_102, jzA_640, jgh, (101, [], [0, 0, 0, 0, 0, 0]), jzA_641, (117, [], [20, 21, 22, 23]), jgh, jgh, jgh, (4, [(4, 24), (1, 1)], []), jgh, jgh, (7, [(4, 25), (4, (-1)), (4, (-1))], []), jgh, (101, [], [0, 0, 0, 0, 0, 0]), (114, [], [19]), (101, [], [0, 0, 0, 0, 0, 0]), (4, [(4, 26), (1, 1)], []), (114, [], [19, (-1)]), (114, [], [19]), (7, [(4, 29), (4, (-1)), (4, (-1))], []), (117, [], [20, 21, 30, 23]), jzA_1500]
def jpA_1654 : List JC := [jzA_5, (8, [(4, 12), (4, 13)], []), jgh, jgh, jgh, jgh, jgh, jgh, (101, [], [0, 0, 0, 0, 0, 0]), jgh, jzA_79, jzA_640, jgh, (101, [], [0, 0, 0, 0, 0, 0]), jzA_641, (117, [], [20, 21, 22, 23]), jgh, jgh, jgh, (4, [(4, 24), (1, 1)], []), jgh, jgh, (7, [(4, 25), (4, (-1)), (4, (-1))], []), jgh, (101, [], [0, 0, 0, 0, 0, 0]), (114, [], [19])]
theorem jA_128_375 {xs : List Int} {d : Nat} {x2 : Int} (h_x2 : 0 ≤ x2 ∧ x2 ≤ 7) : jT xs (d + 6) 128 26 0 [(0, (4, 0)), (1, (0, 2)), (2, (0, x2)), (3, (0, 1))] [] jpA_1654 7 23 (fun k v hsN => k = 0 ∧ v = (0, 1) ∧ hsN = jpA_1653) := by
  refine jT_xaload_n (v := (4, 0)) (pcN := 1) jI_128_0 rfl rfl rfl ?_
  refine jT_xiload_n (v := (0, 2)) (pcN := 2) jI_128_1 rfl rfl rfl ?_
  refine jT_xiconst (k := 4) (pcN := 3) jI_128_2 rfl ?_
  refine jT_fR [0] 26 (y := 115) (pcN := 6) (dC := 0) (bc1 := 0) (bc2 := 0) (c1 := 7) (c2 := 23) (as := [(4, 0), (0, 2), (0, 4)]) (asC := [(4, 0), (0, 2), (0, 4)]) (LN := [(0, (4, 0)), (1, (0, 2)), (2, (0, x2)), (3, (0, 1))]) (stN := []) (hsC := [jgh]) (v := (9, 0)) (st2 := []) (jA_115_372 (d := 0)) (by rfl) (by rfl) (by decide +kernel) (by rfl) (by rfl) (by omega) (by omega) (by omega) (by omega) rfl ?_
  refine jT_xaload_n (v := (4, 0)) (pcN := 7) jI_128_6 rfl rfl rfl ?_
  refine jT_xiload_n (v := (0, x2)) (pcN := 8) jI_128_7 rfl rfl rfl ?_
  refine jT_xbipush (k := 8) (pcN := 10) jI_128_8 (by decide) rfl ?_
  refine jT_fR [0] 26 (y := 115) (pcN := 13) (dC := 0) (bc1 := 0) (bc2 := 0) (c1 := 7) (c2 := 23) (as := [(4, 0), (0, x2), (0, 8)]) (asC := [(4, 0), (0, x2), (0, 8)]) (LN := [(0, (4, 0)), (1, (0, 2)), (2, (0, x2)), (3, (0, 1))]) (stN := []) (hsC := [jgh]) (v := (9, 0)) (st2 := []) (jA_115_16 (d := 0) (by omega)) (by rfl) (by rfl) (by decide +kernel) (by rfl) (by rfl) (by omega) (by omega) (by omega) (by omega) rfl ?_
  refine jT_xaload_n (v := (4, 0)) (pcN := 14) jI_128_13 rfl rfl rfl ?_
  refine jT_xgetf (a := 0) (t := 1) (ci := 13) (fi := 11) (c := jzA_5) (v := (4, 11)) (pcN := 17) jI_128_14 rfl rfl rfl rfl rfl rfl rfl ?_
  refine jT_xiload_n (v := (0, 2)) (pcN := 18) jI_128_17 rfl rfl rfl ?_
  refine jT_fR [11, 14, 15, 16, 17, 18, 20, 21, 22, 23] 26 (y := 56) (pcN := 21) (dC := 0) (bc1 := 0) (bc2 := 0) (c1 := 7) (c2 := 23) (as := [(4, 11), (0, 2)]) (asC := [(4, 0), (0, 2)]) (LN := [(0, (4, 0)), (1, (0, 2)), (2, (0, x2)), (3, (0, 1))]) (stN := []) (hsC := jpA_1446) (v := (4, 8)) (st2 := [(4, 22)]) (jA_56_373 (d := 0)) (by rfl) (by rfl) (by decide +kernel) (by rfl) (by rfl) (by omega) (by omega) (by omega) (by omega) rfl ?_
  refine jT_xastore (v := (4, 22)) (LN := [(4, (4, 22)), (0, (4, 0)), (1, (0, 2)), (2, (0, x2)), (3, (0, 1))]) (pcN := 23) jI_128_21 rfl rfl rfl rfl ?_
  refine jT_xaload_n (v := (4, 0)) (pcN := 24) jI_128_23 rfl rfl rfl ?_
  refine jT_xaload_n (v := (4, 0)) (pcN := 25) jI_128_24 rfl rfl rfl ?_
  refine jT_xgetf (a := 0) (t := 1) (ci := 13) (fi := 11) (c := jzA_5) (v := (4, 11)) (pcN := 28) jI_128_25 rfl rfl rfl rfl rfl rfl rfl ?_
  refine jT_xiload_n (v := (0, x2)) (pcN := 29) jI_128_28 rfl rfl rfl ?_
  refine jT_fR [11, 14, 15, 16, 17, 18, 19] 26 (y := 57) (pcN := 32) (dC := 0) (bc1 := 0) (bc2 := 0) (c1 := 7) (c2 := 23) (as := [(4, 11), (0, x2)]) (asC := [(4, 0), (0, x2)]) (LN := [(4, (4, 22)), (0, (4, 0)), (1, (0, 2)), (2, (0, x2)), (3, (0, 1))]) (stN := [(4, 0)]) (hsC := jpA_47) (v := (4, 6)) (st2 := [(4, 19), (4, 0)]) (jA_57_24 (d := 0) (by omega)) (by rfl) (by rfl) (by decide +kernel) (by rfl) (by rfl) (by omega) (by omega) (by omega) (by omega) rfl ?_
  refine jT_xiconst (k := 1) (pcN := 33) jI_128_32 rfl ?_
  refine jT_fA [0, 19, 1, 2, 3, 4, 5, 6, 7, 8, 9, 10, 11, 24, 12, 13] 26 (y := 127) (pcN := 36) (dC := 3) (bc1 := 2) (bc2 := 8) (c1 := 5) (c2 := 15) (as := [(4, 0), (4, 19), (0, 1)]) (asC := [(4, 0), (4, 1), (0, 1)]) (LN := [(4, (4, 22)), (0, (4, 0)), (1, (0, 2)), (2, (0, x2)), (3, (0, 1))]) (stN := []) (hsC := jpA_1447) (ex := [(101, [], [0, 0, 0, 0, 0, 0]), (4, [(4, 16), (1, 1)], [])]) (v := (4, 17)) (st2 := [(4, 27)]) (hs2 := jpA_1650) (jA_127_323 (d := 0)) (by rfl) (by rfl) (by decide +kernel) (by rfl) (by rfl) (by omega) (by omega) (by omega) (by omega) rfl (by decide +kernel) ?_
  refine jT_xastore (v := (4, 27)) (LN := [(5, (4, 27)), (4, (4, 22)), (0, (4, 0)), (1, (0, 2)), (2, (0, x2)), (3, (0, 1))]) (pcN := 38) jI_128_36 rfl rfl rfl rfl ?_
  refine jT_xaload (v := (4, 22)) (pcN := 40) jI_128_38 rfl rfl rfl ?_
  refine jT_xaload (v := (4, 27)) (pcN := 42) jI_128_40 rfl rfl rfl ?_
  refine jT_xaload_n (v := (4, 0)) (pcN := 43) jI_128_42 rfl rfl rfl ?_
  refine jT_xgetf (a := 0) (t := 1) (ci := 13) (fi := 0) (c := jzA_5) (v := (4, 1)) (pcN := 46) jI_128_43 rfl rfl rfl rfl rfl rfl rfl ?_
  refine jT_fR [22, 27, 1, 25, 26, 12, 13, 19, 24] 28 (y := 33) (pcN := 49) (dC := 4) (bc1 := 0) (bc2 := 0) (c1 := 5) (c2 := 15) (as := [(4, 22), (4, 27), (4, 1)]) (asC := [(4, 0), (4, 1), (4, 2)]) (LN := [(5, (4, 27)), (4, (4, 22)), (0, (4, 0)), (1, (0, 2)), (2, (0, x2)), (3, (0, 1))]) (stN := []) (hsC := jpA_1451) (v := (0, 0)) (st2 := [(0, 0)]) (jA_33_328 (d := 0)) (by rfl) (by rfl) (by decide +kernel) (by rfl) (by rfl) (by omega) (by omega) (by omega) (by omega) rfl ?_
  refine jT_xistore (v := (0, 0)) (LN := [(6, (0, 0)), (5, (4, 27)), (4, (4, 22)), (0, (4, 0)), (1, (0, 2)), (2, (0, x2)), (3, (0, 1))]) (pcN := 51) jI_128_49 rfl rfl rfl rfl ?_
  refine jT_xiload_n (v := (0, 1)) (pcN := 52) jI_128_51 rfl rfl rfl ?_
  refine jT_xifT (pcN := 79) jI_128_52 rfl (by decide +kernel) rfl ?_
  refine jT_xiload_n (v := (0, 1)) (pcN := 80) jI_128_79 rfl rfl rfl ?_
  refine jT_xifF (t := 108) (pcN := 83) jI_128_80 rfl (by decide +kernel) rfl rfl ?_
  refine jT_xiload (v := (0, 0)) (pcN := 85) jI_128_83 rfl rfl rfl ?_
  refine jT_xifT (pcN := 108) jI_128_85 rfl (by decide +kernel) rfl ?_
  refine jT_xiload_n (v := (0, 1)) (pcN := 109) jI_128_108 rfl rfl rfl ?_
  refine jT_xifF (t := 118) (pcN := 112) jI_128_109 rfl (by decide +kernel) rfl rfl ?_
  refine jT_xaload_n (v := (4, 0)) (pcN := 113) jI_128_112 rfl rfl rfl ?_
  refine jT_xaload (v := (4, 27)) (pcN := 115) jI_128_113 rfl rfl rfl ?_
  refine jT_fR [0, 27, 26] 28 (y := 117) (pcN := 118) (dC := 2) (bc1 := 0) (bc2 := 0) (c1 := 5) (c2 := 15) (as := [(4, 0), (4, 27)]) (asC := [(4, 0), (4, 1)]) (LN := [(6, (0, 0)), (5, (4, 27)), (4, (4, 22)), (0, (4, 0)), (1, (0, 2)), (2, (0, x2)), (3, (0, 1))]) (stN := []) (hsC := [jgh, (4, [(4, 2), (1, 1)], []), (101, [], [0, 0, 0, 0, 0, 0])]) (v := (9, 0)) (st2 := []) (jA_117_31 (d := 0)) (by rfl) (by rfl) (by decide +kernel) (by rfl) (by rfl) (by omega) (by omega) (by omega) (by omega) rfl ?_
  refine jT_xaload_n (v := (4, 0)) (pcN := 119) jI_128_118 rfl rfl rfl ?_
  refine jT_xaload_n (v := (4, 0)) (pcN := 120) jI_128_119 rfl rfl rfl ?_
  refine jT_xgetf (a := 0) (t := 1) (ci := 13) (fi := 11) (c := jzA_5) (v := (4, 11)) (pcN := 123) jI_128_120 rfl rfl rfl rfl rfl rfl rfl ?_
  refine jT_xiload_n (v := (0, 2)) (pcN := 124) jI_128_123 rfl rfl rfl ?_
  refine jT_xiload_n (v := (0, 1)) (pcN := 125) jI_128_124 rfl rfl rfl ?_
  refine jT_xifF (t := 142) (pcN := 128) jI_128_125 rfl (by decide +kernel) rfl rfl ?_
  refine jT_xaload (v := (4, 22)) (pcN := 130) jI_128_128 rfl rfl rfl ?_
  refine jT_xaload (v := (4, 27)) (pcN := 132) jI_128_130 rfl rfl rfl ?_
  refine jT_xaload_n (v := (4, 0)) (pcN := 133) jI_128_132 rfl rfl rfl ?_
  refine jT_xgetf (a := 0) (t := 1) (ci := 13) (fi := 0) (c := jzA_5) (v := (4, 1)) (pcN := 136) jI_128_133 rfl rfl rfl rfl rfl rfl rfl ?_
  refine jT_fA [22, 27, 1, 25, 26, 12, 13, 19, 24] 28 (y := 34) (pcN := 139) (dC := 5) (bc1 := 3) (bc2 := 6) (c1 := 2) (c2 := 9) (as := [(4, 22), (4, 27), (4, 1)]) (asC := [(4, 0), (4, 1), (4, 2)]) (LN := [(6, (0, 0)), (5, (4, 27)), (4, (4, 22)), (0, (4, 0)), (1, (0, 2)), (2, (0, x2)), (3, (0, 1))]) (stN := [(0, 2), (4, 11), (4, 0)]) (hsC := jpA_1451) (ex := [(114, [], [7, (-1)]), (114, [], [7]), (7, [(4, 10), (4, (-1)), (4, (-1))], [])]) (v := (4, 11)) (st2 := [(4, 30), (0, 2), (4, 11), (4, 0)]) (hs2 := jpA_1651) (jA_34_333 (d := 0)) (by rfl) (by rfl) (by decide +kernel) (by rfl) (by rfl) (by omega) (by omega) (by omega) (by omega) rfl (by decide +kernel) ?_
  refine jT_xgoto (pcN := 149) jI_128_139 rfl ?_
  refine jT_fA [11, 30, 14, 15, 16, 17, 18, 29, 20, 21, 22, 23] 31 (y := 60) (pcN := 152) (dC := 1) (bc1 := 2) (bc2 := 9) (c1 := 0) (c2 := 0) (as := [(4, 11), (0, 2), (4, 30)]) (asC := [(4, 0), (0, 2), (4, 1)]) (LN := [(6, (0, 0)), (5, (4, 27)), (4, (4, 22)), (0, (4, 0)), (1, (0, 2)), (2, (0, x2)), (3, (0, 1))]) (stN := [(4, 0)]) (hsC := jpA_1461) (ex := [(117, [], [8, 9, 1, 11]), jzA_1459]) (v := (4, 13)) (st2 := [(4, 32), (4, 0)]) (hs2 := jpA_1652) (jA_60_374 (d := 0)) (by rfl) (by rfl) (by decide +kernel) (by rfl) (by rfl) (by omega) (by omega) (by omega) (by omega) rfl (by decide +kernel) ?_
  refine jT_fB [0, 32, 1, 2, 3, 4, 5, 6, 7, 8, 9, 10, 11, 14, 15, 16, 17, 18] 33 (y := 100) (pcN := 155) (dC := 0) (bc1 := 0) (bc2 := 0) (c1 := 0) (c2 := 0) (as := [(4, 0), (4, 32)]) (asC := [(4, 0), (4, 1)]) (LN := [(6, (0, 0)), (5, (4, 27)), (4, (4, 22)), (0, (4, 0)), (1, (0, 2)), (2, (0, x2)), (3, (0, 1))]) (stN := []) (hsC := jpA_80) (hsD := jpA_78) (v := (9, 0)) (st2 := []) (hs2 := jpA_1653) (jA_100_34 (d := 0)) (by rfl) (by rfl) (by decide +kernel) (by rfl) (by rfl) (by omega) (by omega) (by omega) (by omega) rfl (by decide +kernel) ?_
  refine jT_xiload (v := (0, 0)) (pcN := 157) jI_128_155 rfl rfl rfl ?_
  refine jT_xifF (t := 164) (pcN := 160) jI_128_157 rfl (by decide +kernel) rfl rfl ?_
  refine jT_xiconst (k := 1) (pcN := 161) jI_128_160 rfl ?_
  refine jT_xgoto (pcN := 165) jI_128_161 rfl ?_
  exact jT_ret rfl (by decide) (by show 26 ≤ 33; decide) (by omega) (by omega) ⟨rfl, rfl, rfl⟩
def jpA_1655 : List JC := [jzA_1509, (101, [], [0]), (8, [(4, 13), (4, 14)], []), jgh, jgh, jgh, jgh, jgh, jgh, (101, [], [0, 0, 0, 0, 0, 0]), jgh, jzA_76, jzA_659, jgh, (101, [], [0, 0, 0, 0, 0, 0]), jzA_660, (117, [], [21, 22, 23, 24]), jgh, jgh, jgh, (4, [(4, 25), (1, 1)], []), jgh, jgh, (7, [(4, 26), (4, (-1)), (4, (-1))], []), jgh, (101, [], [0, 0, 0, 0, 0, 0]), (114, [], [20]), (101, [], [0, 0, 0, 0, 0, 0]), (4, [(4, 27), (1, 1)], []), (114, [], [20, (-1)]), (114, [], [20]), (7, [(4, 30), (4, (-1)), (4, (-1))], []), (117, [], [21, 22, 31, 24]), jzA_1510]
def jpA_1656 : List JC := [jzA_1509, (101, [], [1]), (8, [(4, 13), (4, 14)], []), jgh, jgh, jgh, jgh, jgh, jgh, (101, [], [0, 0, 0, 0, 0, 0]), jgh, jzA_76, jzA_659, jgh, (101, [], [0, 0, 0, 0, 0, 0]), jzA_660, (117, [], [21, 22, 23, 24]), jgh, jgh, jgh, (4, [(4, 25), (1, 1)], []), jgh, jgh, (7, [(4, 26), (4, (-1)), (4, (-1))], []), jgh, (101, [], [0, 0, 0, 0, 0, 0]), (114, [], [20]), (101, [], [0, 0, 0, 0, 0, 0]), (4, [(4, 27), (1, 1)], []), (114, [], [20, (-1)]), (114, [], [20]), (7, [(4, 30), (4, (-1)), (4, (-1))], []), (117, [], [21, 22, 31, 24]), jzA_1510]
def jpA_1657 : List JC := [jzA_14, (101, [], [0]), (8, [(4, 13), (4, 14)], []), jgh, jgh, jgh, jgh, jgh, jgh, (101, [], [0, 0, 0, 0, 0, 0]), jgh, jzA_79, jzA_659, jgh, (101, [], [0, 0, 0, 0, 0, 0]), jzA_660, (117, [], [21, 22, 23, 24]), jgh, jgh, jgh, (4, [(4, 25), (1, 1)], []), jgh, jgh, (7, [(4, 26), (4, (-1)), (4, (-1))], []), jgh, (101, [], [0, 0, 0, 0, 0, 0]), (114, [], [20])]
theorem jA_336_376 {xs : List Int} {d : Nat} {x2 : Int} (h_x2 : 0 ≤ x2 ∧ x2 ≤ 7) : jT xs (d + 7) 336 27 0 [(0, (4, 0)), (1, (0, 2)), (2, (0, x2)), (3, (0, 1)), (4, (4, 1))] [] jpA_1657 7 23 (fun k v hsN => k = 0 ∧ v = (0, 0) ∧ hsN = jpA_1656) := by
  refine jT_xaload (v := (4, 1)) (pcN := 2) jI_336_0 rfl rfl rfl ?_
  refine jT_xiconst (k := 0) (pcN := 3) jI_336_2 rfl ?_
  refine jT_xaload_n (v := (4, 0)) (pcN := 4) jI_336_3 rfl rfl rfl ?_
  refine jT_xiload_n (v := (0, 2)) (pcN := 5) jI_336_4 rfl rfl rfl ?_
  refine jT_xiload_n (v := (0, x2)) (pcN := 6) jI_336_5 rfl rfl rfl ?_
  refine jT_xiload_n (v := (0, 1)) (pcN := 7) jI_336_6 rfl rfl rfl ?_
  refine jT_fB [0, 2, 3, 4, 5, 6, 7, 8, 9, 10, 11, 12, 13, 14, 15, 16, 17, 18, 19, 20, 21, 22, 23, 24, 25, 26] 27 (y := 128) (pcN := 10) (dC := 6) (bc1 := 7) (bc2 := 23) (c1 := 0) (c2 := 0) (as := [(4, 0), (0, 2), (0, x2), (0, 1)]) (asC := [(4, 0), (0, 2), (0, x2), (0, 1)]) (LN := [(0, (4, 0)), (1, (0, 2)), (2, (0, x2)), (3, (0, 1)), (4, (4, 1))]) (stN := [(0, 0), (4, 1)]) (hsC := jpA_1654) (hsD := jpA_1653) (v := (0, 1)) (st2 := [(0, 1), (0, 0), (4, 1)]) (hs2 := jpA_1655) (jA_128_375 (d := 0) (by omega)) (by rfl) (by rfl) (by decide +kernel) (by rfl) (by rfl) (by omega) (by omega) (by omega) (by omega) rfl (by decide +kernel) ?_
  refine jT_xifF (t := 17) (pcN := 13) jI_336_10 rfl (by decide +kernel) rfl rfl ?_
  refine jT_xlconst (z := 1) (pcN := 14) jI_336_13 rfl rfl ?_
  refine jT_xgoto (pcN := 18) jI_336_14 rfl ?_
  refine jT_adv 1 (pcN := 19) (LN := [(0, (4, 0)), (1, (0, 2)), (2, (0, x2)), (3, (0, 1)), (4, (4, 1))]) (stN := []) (hsN := jpA_1656) (c1 := 0) (s1 := 0) (c2 := 0) (s2 := 0) (by exact rfl) ?_ (by omega) (by omega)
  refine jT_xgoto (pcN := 34) jI_336_19 rfl ?_
  refine jT_xiconst (k := 0) (pcN := 35) jI_336_34 rfl ?_
  exact jT_ret rfl (by decide) (by show 27 ≤ 34; decide) (by omega) (by omega) ⟨rfl, rfl, rfl⟩
theorem jA_189_377 {xs : List Int} {d : Nat} : jT xs d 189 0 0 [(0, (1, 2)), (2, (1, 0)), (4, (1, 3))] [] [] 0 0 (fun k v hsN => k = 0 ∧ v = (0, 1) ∧ hsN = [] ++ []) := by
  refine jT_advK 10 (pcN := 18) (LN := [(0, (1, 2)), (2, (1, 0)), (4, (1, 3))]) (stN := [(0, 1)]) (hsN := []) (c1 := 0) (s1 := 0) (c2 := 0) (s2 := 0) (by decide +kernel) ?_ (by omega) (by omega)
  exact jT_ret rfl (by decide) (by show 0 ≤ 0; decide) (by omega) (by omega) ⟨rfl, rfl, rfl⟩
theorem jA_238_378 {xs : List Int} {d : Nat} : jT xs (d + 1) 238 0 0 [(0, (0, 2))] [] [] 0 0 (fun k v hsN => k = 0 ∧ v = (0, 1) ∧ hsN = [] ++ []) := by
  refine jT_advK 4 (pcN := 6) (LN := [(0, (0, 2))]) (stN := [(1, 3), (1, 0), (1, 2)]) (hsN := []) (c1 := 0) (s1 := 0) (c2 := 0) (s2 := 0) (by decide +kernel) ?_ (by omega) (by omega)
  refine jT_fR [] 0 (y := 189) (pcN := 9) (dC := 0) (bc1 := 0) (bc2 := 0) (c1 := 0) (c2 := 0) (as := [(1, 2), (1, 0), (1, 3)]) (asC := [(1, 2), (1, 0), (1, 3)]) (LN := [(0, (0, 2))]) (stN := []) (hsC := []) (v := (0, 1)) (st2 := [(0, 1)]) (jA_189_377 (d := 0)) (by rfl) (by rfl) (by decide +kernel) (by rfl) (by rfl) (by omega) (by omega) (by omega) (by omega) rfl ?_
  exact jT_ret rfl (by decide) (by show 0 ≤ 0; decide) (by omega) (by omega) ⟨rfl, rfl, rfl⟩
theorem jA_245_379 {xs : List Int} {d : Nat} : jT xs d 245 16 0 [(0, (4, 0)), (1, (0, 2))] [] jpA_1519 0 0 (fun k v hsN => k = 0 ∧ v = (0, 1) ∧ hsN = jpA_1519 ++ []) := by
  refine jT_advK 7 (pcN := 12) (LN := [(0, (4, 0)), (1, (0, 2))]) (stN := [(0, 618), (4, 1)]) (hsN := jpA_1519) (c1 := 0) (s1 := 0) (c2 := 0) (s2 := 0) (by decide +kernel) ?_ (by omega) (by omega)
  refine jT_iald (x := 1) (a := 1) (j := 618) (fs := []) (X := jS0) (by rfl) (by rfl) (by rfl) (by rfl) (by decide +kernel) ?_
  refine jT_eq (LN := [(0, (4, 0)), (1, (0, 2))]) (stN := [(0, 1)]) (hsN := jpA_1519) rfl rfl rfl ?_
  exact jT_ret rfl (by decide) (by show 16 ≤ 16; decide) (by omega) (by omega) ⟨rfl, rfl, rfl⟩
theorem jA_242_380 {xs : List Int} {d : Nat} : jT xs d 242 0 0 [(0, (0, 2)), (1, (0, 0))] [] [] 0 0 (fun k v hsN => k = 0 ∧ v = (0, 619) ∧ hsN = [] ++ []) := by
  refine jT_advK 11 (pcN := 15) (LN := [(0, (0, 2)), (1, (0, 0))]) (stN := [(0, 619)]) (hsN := []) (c1 := 0) (s1 := 0) (c2 := 0) (s2 := 0) (by decide +kernel) ?_ (by omega) (by omega)
  exact jT_ret rfl (by decide) (by show 0 ≤ 0; decide) (by omega) (by omega) ⟨rfl, rfl, rfl⟩
theorem jA_236_381 {xs : List Int} {d : Nat} : jT xs d 236 16 0 [(0, (4, 0)), (1, (4, 1)), (2, (0, 619))] [] jpA_130 0 0 (fun k v hsN => k = 0 ∧ v = (0, 1) ∧ hsN = jpA_130 ++ []) := by
  refine jT_advK 6 (pcN := 9) (LN := [(0, (4, 0)), (1, (4, 1)), (2, (0, 619))]) (stN := [(0, 625), (4, 1), (1, 1)]) (hsN := jpA_130) (c1 := 0) (s1 := 0) (c2 := 0) (s2 := 0) (by decide +kernel) ?_ (by omega) (by omega)
  refine jT_iald (x := 1) (a := 1) (j := 625) (fs := []) (X := jS0) (by rfl) (by rfl) (by rfl) (by rfl) (by decide +kernel) ?_
  refine jT_eq (LN := [(0, (4, 0)), (1, (4, 1)), (2, (0, 619))]) (stN := [(0, 1), (1, 1)]) (hsN := jpA_130) rfl rfl rfl ?_
  refine jT_advK 21 (pcN := 47) (LN := [(4, (0, 0)), (3, (0, 1)), (0, (4, 0)), (1, (4, 1)), (2, (0, 619))]) (stN := [(0, 619), (4, 1), (1, 0)]) (hsN := jpA_130) (c1 := 0) (s1 := 0) (c2 := 0) (s2 := 0) (by decide +kernel) ?_ (by omega) (by omega)
  refine jT_iald (x := 0) (a := 1) (j := 619) (fs := []) (X := jS0) (by rfl) (by rfl) (by rfl) (by rfl) (by decide +kernel) ?_
  refine jT_eq (LN := [(4, (0, 0)), (3, (0, 1)), (0, (4, 0)), (1, (4, 1)), (2, (0, 619))]) (stN := [(0, 0), (1, 0)]) (hsN := jpA_130) rfl rfl rfl ?_
  refine jT_advK 21 (pcN := 47) (LN := [(4, (0, 1)), (3, (0, 1)), (0, (4, 0)), (1, (4, 1)), (2, (0, 619))]) (stN := [(0, 620), (4, 1), (1, 0)]) (hsN := jpA_130) (c1 := 0) (s1 := 0) (c2 := 0) (s2 := 0) (by decide +kernel) ?_ (by omega) (by omega)
  refine jT_iald (x := 0) (a := 1) (j := 620) (fs := []) (X := jS0) (by rfl) (by rfl) (by rfl) (by rfl) (by decide +kernel) ?_
  refine jT_eq (LN := [(4, (0, 1)), (3, (0, 1)), (0, (4, 0)), (1, (4, 1)), (2, (0, 619))]) (stN := [(0, 0), (1, 0)]) (hsN := jpA_130) rfl rfl rfl ?_
  refine jT_advK 21 (pcN := 47) (LN := [(4, (0, 2)), (3, (0, 1)), (0, (4, 0)), (1, (4, 1)), (2, (0, 619))]) (stN := [(0, 621), (4, 1), (1, 0)]) (hsN := jpA_130) (c1 := 0) (s1 := 0) (c2 := 0) (s2 := 0) (by decide +kernel) ?_ (by omega) (by omega)
  refine jT_iald (x := 0) (a := 1) (j := 621) (fs := []) (X := jS0) (by rfl) (by rfl) (by rfl) (by rfl) (by decide +kernel) ?_
  refine jT_eq (LN := [(4, (0, 2)), (3, (0, 1)), (0, (4, 0)), (1, (4, 1)), (2, (0, 619))]) (stN := [(0, 0), (1, 0)]) (hsN := jpA_130) rfl rfl rfl ?_
  refine jT_advK 21 (pcN := 47) (LN := [(4, (0, 3)), (3, (0, 1)), (0, (4, 0)), (1, (4, 1)), (2, (0, 619))]) (stN := [(0, 622), (4, 1), (1, 0)]) (hsN := jpA_130) (c1 := 0) (s1 := 0) (c2 := 0) (s2 := 0) (by decide +kernel) ?_ (by omega) (by omega)
  refine jT_iald (x := 0) (a := 1) (j := 622) (fs := []) (X := jS0) (by rfl) (by rfl) (by rfl) (by rfl) (by decide +kernel) ?_
  refine jT_eq (LN := [(4, (0, 3)), (3, (0, 1)), (0, (4, 0)), (1, (4, 1)), (2, (0, 619))]) (stN := [(0, 0), (1, 0)]) (hsN := jpA_130) rfl rfl rfl ?_
  refine jT_advK 21 (pcN := 47) (LN := [(4, (0, 4)), (3, (0, 1)), (0, (4, 0)), (1, (4, 1)), (2, (0, 619))]) (stN := [(0, 623), (4, 1), (1, 0)]) (hsN := jpA_130) (c1 := 0) (s1 := 0) (c2 := 0) (s2 := 0) (by decide +kernel) ?_ (by omega) (by omega)
  refine jT_iald (x := 0) (a := 1) (j := 623) (fs := []) (X := jS0) (by rfl) (by rfl) (by rfl) (by rfl) (by decide +kernel) ?_
  refine jT_eq (LN := [(4, (0, 4)), (3, (0, 1)), (0, (4, 0)), (1, (4, 1)), (2, (0, 619))]) (stN := [(0, 0), (1, 0)]) (hsN := jpA_130) rfl rfl rfl ?_
  refine jT_advK 21 (pcN := 47) (LN := [(4, (0, 5)), (3, (0, 1)), (0, (4, 0)), (1, (4, 1)), (2, (0, 619))]) (stN := [(0, 624), (4, 1), (1, 0)]) (hsN := jpA_130) (c1 := 0) (s1 := 0) (c2 := 0) (s2 := 0) (by decide +kernel) ?_ (by omega) (by omega)
  refine jT_iald (x := 0) (a := 1) (j := 624) (fs := []) (X := jS0) (by rfl) (by rfl) (by rfl) (by rfl) (by decide +kernel) ?_
  refine jT_eq (LN := [(4, (0, 5)), (3, (0, 1)), (0, (4, 0)), (1, (4, 1)), (2, (0, 619))]) (stN := [(0, 0), (1, 0)]) (hsN := jpA_130) rfl rfl rfl ?_
  refine jT_advK 12 (pcN := 66) (LN := [(4, (0, 6)), (3, (0, 1)), (0, (4, 0)), (1, (4, 1)), (2, (0, 619))]) (stN := [(0, 1)]) (hsN := jpA_130) (c1 := 0) (s1 := 0) (c2 := 0) (s2 := 0) (by decide +kernel) ?_ (by omega) (by omega)
  exact jT_ret rfl (by decide) (by show 16 ≤ 16; decide) (by omega) (by omega) ⟨rfl, rfl, rfl⟩
theorem jA_244_382 {xs : List Int} {d : Nat} : jT xs (d + 1) 244 16 0 [(0, (4, 0)), (1, (0, 2))] [] jpA_130 0 0 (fun k v hsN => k = 0 ∧ v = (0, 1) ∧ hsN = jpA_130 ++ []) := by
  refine jT_advK 5 (pcN := 5) (LN := [(2, (0, 0)), (0, (4, 0)), (1, (0, 2))]) (stN := [(0, 2), (4, 0), (0, 0)]) (hsN := jpA_130) (c1 := 0) (s1 := 0) (c2 := 0) (s2 := 0) (by decide +kernel) ?_ (by omega) (by omega)
  refine jT_fR [0, 1, 2, 3, 4, 5, 6, 7, 8, 9, 10, 11, 12, 13, 14, 15] 16 (y := 245) (pcN := 8) (dC := 0) (bc1 := 0) (bc2 := 0) (c1 := 0) (c2 := 0) (as := [(4, 0), (0, 2)]) (asC := [(4, 0), (0, 2)]) (LN := [(2, (0, 0)), (0, (4, 0)), (1, (0, 2))]) (stN := [(0, 0)]) (hsC := jpA_1519) (v := (0, 1)) (st2 := [(0, 1), (0, 0)]) (jA_245_379 (d := 0)) (by rfl) (by rfl) (by decide +kernel) (by rfl) (by rfl) (by omega) (by omega) (by omega) (by omega) rfl ?_
  refine jT_advK 6 (pcN := 18) (LN := [(2, (0, 0)), (0, (4, 0)), (1, (0, 2))]) (stN := [(0, 0), (0, 2), (4, 1), (4, 0)]) (hsN := jpA_130) (c1 := 0) (s1 := 0) (c2 := 0) (s2 := 0) (by decide +kernel) ?_ (by omega) (by omega)
  refine jT_fR [] 16 (y := 242) (pcN := 21) (dC := 0) (bc1 := 0) (bc2 := 0) (c1 := 0) (c2 := 0) (as := [(0, 2), (0, 0)]) (asC := [(0, 2), (0, 0)]) (LN := [(2, (0, 0)), (0, (4, 0)), (1, (0, 2))]) (stN := [(4, 1), (4, 0)]) (hsC := []) (v := (0, 619)) (st2 := [(0, 619), (4, 1), (4, 0)]) (jA_242_380 (d := 0)) (by rfl) (by rfl) (by decide +kernel) (by rfl) (by rfl) (by omega) (by omega) (by omega) (by omega) rfl ?_
  refine jT_fR [0, 1, 2, 3, 4, 5, 6, 7, 8, 9, 10, 11, 12, 13, 14, 15] 16 (y := 236) (pcN := 24) (dC := 0) (bc1 := 0) (bc2 := 0) (c1 := 0) (c2 := 0) (as := [(4, 0), (4, 1), (0, 619)]) (asC := [(4, 0), (4, 1), (0, 619)]) (LN := [(2, (0, 0)), (0, (4, 0)), (1, (0, 2))]) (stN := []) (hsC := jpA_130) (v := (0, 1)) (st2 := [(0, 1)]) (jA_236_381 (d := 0)) (by rfl) (by rfl) (by decide +kernel) (by rfl) (by rfl) (by omega) (by omega) (by omega) (by omega) rfl ?_
  refine jT_advK 2 (pcN := 28) (LN := [(2, (0, 0)), (0, (4, 0)), (1, (0, 2))]) (stN := [(0, 1)]) (hsN := jpA_130) (c1 := 0) (s1 := 0) (c2 := 0) (s2 := 0) (by decide +kernel) ?_ (by omega) (by omega)
  exact jT_ret rfl (by decide) (by show 16 ≤ 16; decide) (by omega) (by omega) ⟨rfl, rfl, rfl⟩
theorem jA_203_383 {xs : List Int} {d : Nat} : jT xs d 203 16 0 [(0, (4, 0)), (1, (4, 1)), (2, (0, 619))] [] jpA_130 0 0 (fun k v hsN => k = 0 ∧ v = (9, 0) ∧ hsN = jpA_130 ++ []) := by
  refine jT_advK 12 (pcN := 17) (LN := [(3, (0, 0)), (0, (4, 0)), (1, (4, 1)), (2, (0, 619))]) (stN := [(0, 619), (4, 1), (0, 0), (4, 7)]) (hsN := jpA_130) (c1 := 0) (s1 := 0) (c2 := 0) (s2 := 0) (by decide +kernel) ?_ (by omega) (by omega)
  refine jT_iald (x := 0) (a := 1) (j := 619) (fs := []) (X := jS0) (by rfl) (by rfl) (by rfl) (by rfl) (by decide +kernel) ?_
  refine jT_eq (LN := [(3, (0, 0)), (0, (4, 0)), (1, (4, 1)), (2, (0, 619))]) (stN := [(0, 0), (0, 0), (4, 7)]) (hsN := jpA_130) rfl rfl rfl ?_
  refine jT_advK 14 (pcN := 17) (LN := [(3, (0, 1)), (0, (4, 0)), (1, (4, 1)), (2, (0, 619))]) (stN := [(0, 620), (4, 1), (0, 1), (4, 7)]) (hsN := jpA_130) (c1 := 0) (s1 := 0) (c2 := 0) (s2 := 0) (by decide +kernel) ?_ (by omega) (by omega)
  refine jT_iald (x := 0) (a := 1) (j := 620) (fs := []) (X := jS0) (by rfl) (by rfl) (by rfl) (by rfl) (by decide +kernel) ?_
  refine jT_eq (LN := [(3, (0, 1)), (0, (4, 0)), (1, (4, 1)), (2, (0, 619))]) (stN := [(0, 0), (0, 1), (4, 7)]) (hsN := jpA_130) rfl rfl rfl ?_
  refine jT_advK 14 (pcN := 17) (LN := [(3, (0, 2)), (0, (4, 0)), (1, (4, 1)), (2, (0, 619))]) (stN := [(0, 621), (4, 1), (0, 2), (4, 7)]) (hsN := jpA_130) (c1 := 0) (s1 := 0) (c2 := 0) (s2 := 0) (by decide +kernel) ?_ (by omega) (by omega)
  refine jT_iald (x := 0) (a := 1) (j := 621) (fs := []) (X := jS0) (by rfl) (by rfl) (by rfl) (by rfl) (by decide +kernel) ?_
  refine jT_eq (LN := [(3, (0, 2)), (0, (4, 0)), (1, (4, 1)), (2, (0, 619))]) (stN := [(0, 0), (0, 2), (4, 7)]) (hsN := jpA_130) rfl rfl rfl ?_
  refine jT_advK 14 (pcN := 17) (LN := [(3, (0, 3)), (0, (4, 0)), (1, (4, 1)), (2, (0, 619))]) (stN := [(0, 622), (4, 1), (0, 3), (4, 7)]) (hsN := jpA_130) (c1 := 0) (s1 := 0) (c2 := 0) (s2 := 0) (by decide +kernel) ?_ (by omega) (by omega)
  refine jT_iald (x := 0) (a := 1) (j := 622) (fs := []) (X := jS0) (by rfl) (by rfl) (by rfl) (by rfl) (by decide +kernel) ?_
  refine jT_eq (LN := [(3, (0, 3)), (0, (4, 0)), (1, (4, 1)), (2, (0, 619))]) (stN := [(0, 0), (0, 3), (4, 7)]) (hsN := jpA_130) rfl rfl rfl ?_
  refine jT_advK 14 (pcN := 17) (LN := [(3, (0, 4)), (0, (4, 0)), (1, (4, 1)), (2, (0, 619))]) (stN := [(0, 623), (4, 1), (0, 4), (4, 7)]) (hsN := jpA_130) (c1 := 0) (s1 := 0) (c2 := 0) (s2 := 0) (by decide +kernel) ?_ (by omega) (by omega)
  refine jT_iald (x := 0) (a := 1) (j := 623) (fs := []) (X := jS0) (by rfl) (by rfl) (by rfl) (by rfl) (by decide +kernel) ?_
  refine jT_eq (LN := [(3, (0, 4)), (0, (4, 0)), (1, (4, 1)), (2, (0, 619))]) (stN := [(0, 0), (0, 4), (4, 7)]) (hsN := jpA_130) rfl rfl rfl ?_
  refine jT_advK 14 (pcN := 17) (LN := [(3, (0, 5)), (0, (4, 0)), (1, (4, 1)), (2, (0, 619))]) (stN := [(0, 624), (4, 1), (0, 5), (4, 7)]) (hsN := jpA_130) (c1 := 0) (s1 := 0) (c2 := 0) (s2 := 0) (by decide +kernel) ?_ (by omega) (by omega)
  refine jT_iald (x := 0) (a := 1) (j := 624) (fs := []) (X := jS0) (by rfl) (by rfl) (by rfl) (by rfl) (by decide +kernel) ?_
  refine jT_eq (LN := [(3, (0, 5)), (0, (4, 0)), (1, (4, 1)), (2, (0, 619))]) (stN := [(0, 0), (0, 5), (4, 7)]) (hsN := jpA_130) rfl rfl rfl ?_
  refine jT_advK 12 (pcN := 32) (LN := [(3, (0, 6)), (0, (4, 0)), (1, (4, 1)), (2, (0, 619))]) (stN := [(0, 625), (4, 1), (4, 0)]) (hsN := jpA_130) (c1 := 0) (s1 := 0) (c2 := 0) (s2 := 0) (by decide +kernel) ?_ (by omega) (by omega)
  refine jT_iald (x := 1) (a := 1) (j := 625) (fs := []) (X := jS0) (by rfl) (by rfl) (by rfl) (by rfl) (by decide +kernel) ?_
  refine jT_eq (LN := [(3, (0, 6)), (0, (4, 0)), (1, (4, 1)), (2, (0, 619))]) (stN := [(0, 1), (4, 0)]) (hsN := jpA_130) rfl rfl rfl ?_
  refine jT_advK 2 (pcN := 37) (LN := [(3, (0, 6)), (0, (4, 0)), (1, (4, 1)), (2, (0, 619))]) (stN := []) (hsN := jpA_130) (c1 := 0) (s1 := 0) (c2 := 0) (s2 := 0) (by decide +kernel) ?_ (by omega) (by omega)
  exact jT_ret rfl (by decide) (by show 16 ≤ 16; decide) (by omega) (by omega) ⟨rfl, rfl, rfl⟩
theorem jA_245_384 {xs : List Int} {d : Nat} : jT xs d 245 16 0 [(0, (4, 0)), (1, (0, 2))] [] jpA_1545 0 0 (fun k v hsN => k = 0 ∧ v = (0, 1) ∧ hsN = jpA_1545 ++ []) := by
  refine jT_advK 7 (pcN := 12) (LN := [(0, (4, 0)), (1, (0, 2))]) (stN := [(0, 618), (4, 1)]) (hsN := jpA_1545) (c1 := 0) (s1 := 0) (c2 := 0) (s2 := 0) (by decide +kernel) ?_ (by omega) (by omega)
  refine jT_iald (x := 1) (a := 1) (j := 618) (fs := []) (X := jS0) (by rfl) (by rfl) (by rfl) (by rfl) (by decide +kernel) ?_
  refine jT_eq (LN := [(0, (4, 0)), (1, (0, 2))]) (stN := [(0, 1)]) (hsN := jpA_1545) rfl rfl rfl ?_
  exact jT_ret rfl (by decide) (by show 16 ≤ 16; decide) (by omega) (by omega) ⟨rfl, rfl, rfl⟩
def jpA_1658 : List JC := [jzA_1556, (100, [], ((jS0).set 618 1)), (100, [], []), jzA_196, jzA_201, jgh, jgh, jgh, jzA_1539, jgh, jgh, jgh, jgh, jgh, jgh, jgh, (100, [], jS0), jgh, jgh, jgh, jgh, jgh, jgh, jgh]
def jzA_1659 : JC := (100, [], (jcpy (((((((((((((((List.replicate 1792 0)).set 0 0)).set 1 0)).set 2 0)).set 3 0)).set 4 0)).set 5 0)).set 6 1) ((jS0).set 618 1) 0 619 7))
def jpA_1660 : List JC := [jzA_1556, jzA_1659, (100, [], []), jzA_196, jzA_201, jgh, jgh, jgh, jzA_1539, jgh, jgh, jgh, jgh, jgh, jgh, jgh, (100, [], jS0), jgh, jgh, jgh, jgh, jgh, jgh, jgh]
theorem jA_241_385 {xs : List Int} {d : Nat} : jT xs (d + 1) 241 24 0 [(0, (4, 0)), (1, (0, 2))] [] jpA_1558 0 0 (fun k v hsN => k = 0 ∧ v = (0, 1) ∧ hsN = jpA_1660) := by
  refine jT_advK 1 (pcN := 1) (LN := [(0, (4, 0)), (1, (0, 2))]) (stN := [(4, 0)]) (hsN := jpA_1558) (c1 := 0) (s1 := 0) (c2 := 0) (s2 := 0) (by decide +kernel) ?_ (by omega) (by omega)
  refine jT_fB [0, 1, 2, 3, 4, 5, 6, 7, 8, 9, 10, 11, 12, 13, 14, 15, 16, 17, 18, 19, 20, 21, 22, 23] 24 (y := 195) (pcN := 4) (dC := 0) (bc1 := 0) (bc2 := 0) (c1 := 0) (c2 := 0) (as := [(4, 0)]) (asC := [(4, 0)]) (LN := [(0, (4, 0)), (1, (0, 2))]) (stN := []) (hsC := jpA_1554) (hsD := jpA_1557) (v := (9, 0)) (st2 := []) (hs2 := jpA_1559) (jA_195_352 (d := 0)) (by rfl) (by rfl) (by decide +kernel) (by rfl) (by rfl) (by omega) (by omega) (by omega) (by omega) rfl (by decide +kernel) ?_
  refine jT_advK 9 (pcN := 20) (LN := [(0, (4, 0)), (1, (0, 2))]) (stN := [(0, 1), (0, 618), (4, 1)]) (hsN := jpA_1559) (c1 := 0) (s1 := 0) (c2 := 0) (s2 := 0) (by decide +kernel) ?_ (by omega) (by omega)
  refine jT_iast (x := 1) (a := 1) (j := 618) (fs := []) (X := jS0) (by rfl) (by rfl) (by rfl) (by rfl) (by rw [show List.length (jS0 : List Int) = 1613 from jS0_len]; omega) ?_
  refine jT_eq (LN := [(0, (4, 0)), (1, (0, 2))]) (stN := []) (hsN := jpA_1658) rfl rfl rfl ?_
  refine jT_advK 7 (pcN := 32) (LN := [(0, (4, 0)), (1, (0, 2))]) (stN := [(0, 0), (0, 2), (4, 1), (0, 0), (4, 8)]) (hsN := jpA_1658) (c1 := 0) (s1 := 0) (c2 := 0) (s2 := 0) (by decide +kernel) ?_ (by omega) (by omega)
  refine jT_fR [] 24 (y := 242) (pcN := 35) (dC := 0) (bc1 := 0) (bc2 := 0) (c1 := 0) (c2 := 0) (as := [(0, 2), (0, 0)]) (asC := [(0, 2), (0, 0)]) (LN := [(0, (4, 0)), (1, (0, 2))]) (stN := [(4, 1), (0, 0), (4, 8)]) (hsC := []) (v := (0, 619)) (st2 := [(0, 619), (4, 1), (0, 0), (4, 8)]) (jA_242_380 (d := 0)) (by rfl) (by rfl) (by decide +kernel) (by rfl) (by rfl) (by omega) (by omega) (by omega) (by omega) rfl ?_
  refine jT_advK 4 (pcN := 42) (LN := [(0, (4, 0)), (1, (0, 2))]) (stN := [(0, 7), (0, 619), (4, 1), (0, 0), (4, 8)]) (hsN := jpA_1658) (c1 := 0) (s1 := 0) (c2 := 0) (s2 := 0) (by decide +kernel) ?_ (by omega) (by omega)
  refine jT_cpy (a := 8) (b := 1) (s0 := 0) (d0 := 619) (n := 7) (k := 100) (X := (((((((((((((((List.replicate 1792 0)).set 0 0)).set 1 0)).set 2 0)).set 3 0)).set 4 0)).set 5 0)).set 6 1)) (Y := ((jS0).set 618 1)) (by rfl) (by rfl) (by rfl) (by rfl) (by rfl) (by rfl) (by rfl) (by decide) (by decide) (by decide) (by rw [show List.length ((((((((((((((((List.replicate 1792 0)).set 0 0)).set 1 0)).set 2 0)).set 3 0)).set 4 0)).set 5 0)).set 6 1) : List Int) = 1792 from by rw [List.length_set, List.length_set, List.length_set, List.length_set, List.length_set, List.length_set, List.length_set]; exact (List.length_replicate)]; decide) (by rw [show List.length (((jS0).set 618 1) : List Int) = 1613 from by rw [List.length_set]; exact (jS0_len)]; omega) ?_
  refine jT_eq (LN := [(0, (4, 0)), (1, (0, 2))]) (stN := []) (hsN := jpA_1660) rfl rfl rfl ?_
  refine jT_advK 2 (pcN := 49) (LN := [(0, (4, 0)), (1, (0, 2))]) (stN := [(0, 1)]) (hsN := jpA_1660) (c1 := 0) (s1 := 0) (c2 := 0) (s2 := 0) (by decide +kernel) ?_ (by omega) (by omega)
  exact jT_ret rfl (by decide) (by show 24 ≤ 24; decide) (by omega) (by omega) ⟨rfl, rfl, rfl⟩
def jpA_1661 : List JC := [jzA_1556, jzA_1659, (100, [], []), jzA_196, jzA_201, jgh, (130, [], [24, 25, 26, 27, 28, 29]), (101, [], [0, 0, 0, 0, 0, 0]), jzA_1539, jgh, jgh, jgh, jgh, jgh, jgh, jgh, (100, [], jS0), jgh, jgh, jgh, jgh, jgh, jgh, jgh, (100, [], (jenc (jlg 0))), jgh, jgh, jgh, jgh, jgh, (101, [], [0, 0, 0, 0, 0, 0]), (101, [], [(-1), 0, 0, 0, 0, 0]), (100, [], (jenc 0)), (100, [], (jenc (-1))), (100, [], (jenc ((-1) * (jlg 0)))), (100, [], [0, 0, 0, 0, 0, 0, 1]), (101, [], [0, 0, 0, 0, 0, 0])]
theorem jA_243_386 {xs : List Int} {d : Nat} {x2 : Int} (h_x2 : 0 ≤ x2 ∧ x2 ≤ 7) : jT xs (d + 7) 243 30 0 [(0, (4, 0)), (1, (0, 2)), (2, (0, x2)), (3, (0, 1))] [] jpA_1632 7 193 (fun k v hsN => k = 0 ∧ v = (0, 1) ∧ hsN = jpA_1661) := by
  refine jT_xaload_n (v := (4, 0)) (pcN := 1) jI_243_0 rfl rfl rfl ?_
  refine jT_xiload_n (v := (0, 2)) (pcN := 2) jI_243_1 rfl rfl rfl ?_
  refine jT_fR [] 30 (y := 238) (pcN := 5) (dC := 1) (bc1 := 0) (bc2 := 0) (c1 := 7) (c2 := 193) (as := [(0, 2)]) (asC := [(0, 2)]) (LN := [(0, (4, 0)), (1, (0, 2)), (2, (0, x2)), (3, (0, 1))]) (stN := [(4, 0)]) (hsC := []) (v := (0, 1)) (st2 := [(0, 1), (4, 0)]) (jA_238_378 (d := 0)) (by rfl) (by rfl) (by decide +kernel) (by rfl) (by rfl) (by omega) (by omega) (by omega) (by omega) rfl ?_
  refine jT_xifF (t := 19) (pcN := 8) jI_243_5 rfl (by decide +kernel) rfl rfl ?_
  refine jT_xiload_n (v := (0, x2)) (pcN := 9) jI_243_8 rfl rfl rfl ?_
  refine jT_fR [] 30 (y := 188) (pcN := 12) (dC := 1) (bc1 := 0) (bc2 := 0) (c1 := 7) (c2 := 193) (as := [(0, x2)]) (asC := [(0, x2)]) (LN := [(0, (4, 0)), (1, (0, 2)), (2, (0, x2)), (3, (0, 1))]) (stN := [(4, 0)]) (hsC := []) (v := (0, 1)) (st2 := [(0, 1), (4, 0)]) (jA_188_20 (d := 0) (by omega)) (by rfl) (by rfl) (by decide +kernel) (by rfl) (by rfl) (by omega) (by omega) (by omega) (by omega) rfl ?_
  refine jT_xifF (t := 19) (pcN := 15) jI_243_12 rfl (by decide +kernel) rfl rfl ?_
  refine jT_xiconst (k := 1) (pcN := 16) jI_243_15 rfl ?_
  refine jT_xgoto (pcN := 20) jI_243_16 rfl ?_
  refine jT_fR [0, 1, 2, 3, 4, 5, 6, 7, 8, 9, 10, 11, 12, 13, 14, 15] 30 (y := 190) (pcN := 23) (dC := 1) (bc1 := 0) (bc2 := 0) (c1 := 7) (c2 := 193) (as := [(4, 0), (0, 1)]) (asC := [(4, 0), (0, 1)]) (LN := [(0, (4, 0)), (1, (0, 2)), (2, (0, x2)), (3, (0, 1))]) (stN := []) (hsC := jpA_22) (v := (0, 0)) (st2 := [(0, 0)]) (jA_190_39 (d := 0)) (by rfl) (by rfl) (by decide +kernel) (by rfl) (by rfl) (by omega) (by omega) (by omega) (by omega) rfl ?_
  refine jT_xifT (pcN := 28) jI_243_23 rfl (by decide +kernel) rfl ?_
  refine jT_xaload_n (v := (4, 0)) (pcN := 29) jI_243_28 rfl rfl rfl ?_
  refine jT_xiload_n (v := (0, x2)) (pcN := 30) jI_243_29 rfl rfl rfl ?_
  refine jT_fR [0, 1, 2, 3, 4, 5, 6, 7, 8, 9, 10, 11, 12, 13, 14, 15] 30 (y := 202) (pcN := 33) (dC := 1) (bc1 := 0) (bc2 := 0) (c1 := 7) (c2 := 193) (as := [(4, 0), (0, x2)]) (asC := [(4, 0), (0, x2)]) (LN := [(0, (4, 0)), (1, (0, 2)), (2, (0, x2)), (3, (0, 1))]) (stN := []) (hsC := jpA_130) (v := (9, 0)) (st2 := []) (jA_202_41 (d := 0) (by omega)) (by rfl) (by rfl) (by decide +kernel) (by rfl) (by rfl) (by omega) (by omega) (by omega) (by omega) rfl ?_
  refine jT_xaload_n (v := (4, 0)) (pcN := 34) jI_243_33 rfl rfl rfl ?_
  refine jT_fA [0, 1, 2, 3, 4, 5, 6, 7, 8, 9, 10, 11, 12, 13, 14, 15, 24, 25, 26, 27, 28, 29] 30 (y := 209) (pcN := 37) (dC := 6) (bc1 := 5) (bc2 := 180) (c1 := 2) (c2 := 13) (as := [(4, 0)]) (asC := [(4, 0)]) (LN := [(0, (4, 0)), (1, (0, 2)), (2, (0, x2)), (3, (0, 1))]) (stN := []) (hsC := jpA_684) (ex := jpA_683) (v := (1, 0)) (st2 := [(1, 0)]) (hs2 := jpA_1568) (jA_209_159 (d := 0)) (by rfl) (by rfl) (by decide +kernel) (by rfl) (by rfl) (by omega) (by omega) (by omega) (by omega) rfl (by decide +kernel) ?_
  refine jT_xlstore (v := (1, 0)) (LN := [(4, (1, 0)), (0, (4, 0)), (1, (0, 2)), (2, (0, x2)), (3, (0, 1))]) (pcN := 39) jI_243_37 rfl rfl rfl rfl ?_
  refine jT_xaload_n (v := (4, 0)) (pcN := 40) jI_243_39 rfl rfl rfl ?_
  refine jT_xiload_n (v := (0, 2)) (pcN := 41) jI_243_40 rfl rfl rfl ?_
  refine jT_fR [0, 1, 2, 3, 4, 5, 6, 7, 8, 9, 10, 11, 12, 13, 14, 15] 35 (y := 244) (pcN := 44) (dC := 1) (bc1 := 0) (bc2 := 0) (c1 := 2) (c2 := 13) (as := [(4, 0), (0, 2)]) (asC := [(4, 0), (0, 2)]) (LN := [(4, (1, 0)), (0, (4, 0)), (1, (0, 2)), (2, (0, x2)), (3, (0, 1))]) (stN := []) (hsC := jpA_130) (v := (0, 1)) (st2 := [(0, 1)]) (jA_244_382 (d := 0)) (by rfl) (by rfl) (by decide +kernel) (by rfl) (by rfl) (by omega) (by omega) (by omega) (by omega) rfl ?_
  refine jT_xistore (v := (0, 1)) (LN := [(6, (0, 1)), (4, (1, 0)), (0, (4, 0)), (1, (0, 2)), (2, (0, x2)), (3, (0, 1))]) (pcN := 46) jI_243_44 rfl rfl rfl rfl ?_
  refine jT_xiload_n (v := (0, 1)) (pcN := 47) jI_243_46 rfl rfl rfl ?_
  refine jT_xifF (t := 73) (pcN := 50) jI_243_47 rfl (by decide +kernel) rfl rfl ?_
  refine jT_xiload (v := (0, 1)) (pcN := 52) jI_243_50 rfl rfl rfl ?_
  refine jT_xifT (pcN := 65) jI_243_52 rfl (by decide +kernel) rfl ?_
  refine jT_xiconst (k := 1) (pcN := 66) jI_243_65 rfl ?_
  refine jT_xgoto (pcN := 92) jI_243_66 rfl ?_
  refine jT_xistore (v := (0, 1)) (LN := [(7, (0, 1)), (6, (0, 1)), (4, (1, 0)), (0, (4, 0)), (1, (0, 2)), (2, (0, x2)), (3, (0, 1))]) (pcN := 94) jI_243_92 rfl rfl rfl rfl ?_
  refine jT_xaload_n (v := (4, 0)) (pcN := 95) jI_243_94 rfl rfl rfl ?_
  refine jT_xiload (v := (0, 1)) (pcN := 97) jI_243_95 rfl rfl rfl ?_
  refine jT_xiconst (k := 2) (pcN := 98) jI_243_97 rfl ?_
  refine jT_fR [0] 35 (y := 191) (pcN := 101) (dC := 0) (bc1 := 0) (bc2 := 0) (c1 := 2) (c2 := 13) (as := [(4, 0), (0, 1), (0, 2)]) (asC := [(4, 0), (0, 1), (0, 2)]) (LN := [(7, (0, 1)), (6, (0, 1)), (4, (1, 0)), (0, (4, 0)), (1, (0, 2)), (2, (0, x2)), (3, (0, 1))]) (stN := []) (hsC := [jgh]) (v := (0, 0)) (st2 := [(0, 0)]) (jA_191_49 (d := 0)) (by rfl) (by rfl) (by decide +kernel) (by rfl) (by rfl) (by omega) (by omega) (by omega) (by omega) rfl ?_
  refine jT_xifF (t := 137) (pcN := 104) jI_243_101 rfl (by decide +kernel) rfl rfl ?_
  refine jT_xaload_n (v := (4, 0)) (pcN := 105) jI_243_104 rfl rfl rfl ?_
  refine jT_xiload_n (v := (0, 1)) (pcN := 106) jI_243_105 rfl rfl rfl ?_
  refine jT_xifF (t := 125) (pcN := 109) jI_243_106 rfl (by decide +kernel) rfl rfl ?_
  refine jT_xaload_n (v := (4, 0)) (pcN := 110) jI_243_109 rfl rfl rfl ?_
  refine jT_fR [0, 1, 2, 3, 4, 5, 6, 7, 8, 9, 10, 11, 12, 13, 14, 15] 35 (y := 205) (pcN := 113) (dC := 1) (bc1 := 0) (bc2 := 0) (c1 := 2) (c2 := 13) (as := [(4, 0)]) (asC := [(4, 0)]) (LN := [(7, (0, 1)), (6, (0, 1)), (4, (1, 0)), (0, (4, 0)), (1, (0, 2)), (2, (0, x2)), (3, (0, 1))]) (stN := [(4, 0)]) (hsC := jpA_147) (v := (0, 1)) (st2 := [(0, 1), (4, 0)]) (jA_205_48 (d := 0)) (by rfl) (by rfl) (by decide +kernel) (by rfl) (by rfl) (by omega) (by omega) (by omega) (by omega) rfl ?_
  refine jT_xifF (t := 129) (pcN := 116) jI_243_113 rfl (by decide +kernel) rfl rfl ?_
  refine jT_xlload (v := (1, 0)) (pcN := 118) jI_243_116 rfl rfl rfl ?_
  refine jT_adv 1 (pcN := 121) (LN := [(7, (0, 1)), (6, (0, 1)), (4, (1, 0)), (0, (4, 0)), (1, (0, 2)), (2, (0, x2)), (3, (0, 1))]) (stN := [(1, (-2147483648)), (1, 0), (4, 0)]) (hsN := jpA_1568) (c1 := 0) (s1 := 0) (c2 := 2) (s2 := 13) (by exact rfl) ?_ (by omega) (by omega)
  refine jT_lcmp (a := 0) (b := (-2147483648)) (z := 1) (by rfl) (by rfl) (by decide +kernel) (by decide +kernel) (by decide) ?_
  refine jT_xifF (t := 129) (pcN := 125) jI_243_122 rfl (by decide +kernel) rfl rfl ?_
  refine jT_xiconst (k := 1) (pcN := 126) jI_243_125 rfl ?_
  refine jT_xgoto (pcN := 130) jI_243_126 rfl ?_
  refine jT_xiconst (k := 3) (pcN := 131) jI_243_130 rfl ?_
  refine jT_fR [0] 35 (y := 191) (pcN := 134) (dC := 0) (bc1 := 0) (bc2 := 0) (c1 := 2) (c2 := 13) (as := [(4, 0), (0, 1), (0, 3)]) (asC := [(4, 0), (0, 1), (0, 3)]) (LN := [(7, (0, 1)), (6, (0, 1)), (4, (1, 0)), (0, (4, 0)), (1, (0, 2)), (2, (0, x2)), (3, (0, 1))]) (stN := []) (hsC := [jgh]) (v := (0, 0)) (st2 := [(0, 0)]) (jA_191_117 (d := 0)) (by rfl) (by rfl) (by decide +kernel) (by rfl) (by rfl) (by omega) (by omega) (by omega) (by omega) rfl ?_
  refine jT_xifT (pcN := 139) jI_243_134 rfl (by decide +kernel) rfl ?_
  refine jT_xbipush (k := 7) (pcN := 141) jI_243_139 (by decide) rfl ?_
  refine jT_adv 1 (pcN := 143) (LN := [(7, (0, 1)), (6, (0, 1)), (4, (1, 0)), (0, (4, 0)), (1, (0, 2)), (2, (0, x2)), (3, (0, 1))]) (stN := [(4, 35)]) (hsN := jpA_1596) (c1 := 1) (s1 := 7) (c2 := 1) (s2 := 6) (by exact rfl) ?_ (by omega) (by omega)
  refine jT_xastore (v := (4, 35)) (LN := [(8, (4, 35)), (7, (0, 1)), (6, (0, 1)), (4, (1, 0)), (0, (4, 0)), (1, (0, 2)), (2, (0, x2)), (3, (0, 1))]) (pcN := 145) jI_243_143 rfl rfl rfl rfl ?_
  refine jT_xaload_n (v := (4, 0)) (pcN := 146) jI_243_145 rfl rfl rfl ?_
  refine jT_xaload (v := (4, 35)) (pcN := 148) jI_243_146 rfl rfl rfl ?_
  refine jT_xiconst (k := 0) (pcN := 149) jI_243_148 rfl ?_
  refine jT_fB [0, 35, 1, 2, 3, 4, 5, 6, 7, 8, 9, 10, 11, 12, 13, 14, 15] 36 (y := 197) (pcN := 152) (dC := 0) (bc1 := 0) (bc2 := 0) (c1 := 1) (c2 := 6) (as := [(4, 0), (4, 35), (0, 0)]) (asC := [(4, 0), (4, 1), (0, 0)]) (LN := [(8, (4, 35)), (7, (0, 1)), (6, (0, 1)), (4, (1, 0)), (0, (4, 0)), (1, (0, 2)), (2, (0, x2)), (3, (0, 1))]) (stN := []) (hsC := jpA_1524) (hsD := jpA_1523) (v := (9, 0)) (st2 := []) (hs2 := jpA_1601) (jA_197_343 (d := 0)) (by rfl) (by rfl) (by decide +kernel) (by rfl) (by rfl) (by omega) (by omega) (by omega) (by omega) rfl (by decide +kernel) ?_
  refine jT_xaload_n (v := (4, 0)) (pcN := 153) jI_243_152 rfl rfl rfl ?_
  refine jT_xiconst (k := 0) (pcN := 154) jI_243_153 rfl ?_
  refine jT_adv 1 (pcN := 157) (LN := [(8, (4, 35)), (7, (0, 1)), (6, (0, 1)), (4, (1, 0)), (0, (4, 0)), (1, (0, 2)), (2, (0, x2)), (3, (0, 1))]) (stN := []) (hsN := jpA_1601) (c1 := 0) (s1 := 0) (c2 := 1) (s2 := 6) (by exact rfl) ?_ (by omega) (by omega)
  refine jT_xiconst (k := 0) (pcN := 158) jI_243_157 rfl ?_
  refine jT_xistore (v := (0, 0)) (LN := [(9, (0, 0)), (8, (4, 35)), (7, (0, 1)), (6, (0, 1)), (4, (1, 0)), (0, (4, 0)), (1, (0, 2)), (2, (0, x2)), (3, (0, 1))]) (pcN := 160) jI_243_158 rfl rfl rfl rfl ?_
  refine jT_xiload (v := (0, 0)) (pcN := 162) jI_243_160 rfl rfl rfl ?_
  refine jT_xaload_n (v := (4, 0)) (pcN := 163) jI_243_162 rfl rfl rfl ?_
  refine jT_xiload_n (v := (0, 2)) (pcN := 164) jI_243_163 rfl rfl rfl ?_
  refine jT_fR [0, 1, 2, 3, 4, 5, 6, 7, 8, 9, 10, 11, 12, 13, 14, 15] 36 (y := 245) (pcN := 167) (dC := 0) (bc1 := 0) (bc2 := 0) (c1 := 1) (c2 := 6) (as := [(4, 0), (0, 2)]) (asC := [(4, 0), (0, 2)]) (LN := [(9, (0, 0)), (8, (4, 35)), (7, (0, 1)), (6, (0, 1)), (4, (1, 0)), (0, (4, 0)), (1, (0, 2)), (2, (0, x2)), (3, (0, 1))]) (stN := [(0, 0)]) (hsC := jpA_1519) (v := (0, 1)) (st2 := [(0, 1), (0, 0)]) (jA_245_379 (d := 0)) (by rfl) (by rfl) (by decide +kernel) (by rfl) (by rfl) (by omega) (by omega) (by omega) (by omega) rfl ?_
  refine jT_xicF (t := 208) (pcN := 170) jI_243_167 rfl (by decide +kernel) rfl rfl ?_
  refine jT_xaload_n (v := (4, 0)) (pcN := 171) jI_243_170 rfl rfl rfl ?_
  refine jT_xaload_n (v := (4, 0)) (pcN := 172) jI_243_171 rfl rfl rfl ?_
  refine jT_xgetf (a := 0) (t := 1) (ci := 14) (fi := 1) (c := jzA_21) (v := (4, 1)) (pcN := 175) jI_243_172 rfl rfl rfl rfl rfl rfl rfl ?_
  refine jT_xiload_n (v := (0, 2)) (pcN := 176) jI_243_175 rfl rfl rfl ?_
  refine jT_xiload (v := (0, 0)) (pcN := 178) jI_243_176 rfl rfl rfl ?_
  refine jT_fR [] 36 (y := 242) (pcN := 181) (dC := 0) (bc1 := 0) (bc2 := 0) (c1 := 1) (c2 := 6) (as := [(0, 2), (0, 0)]) (asC := [(0, 2), (0, 0)]) (LN := [(9, (0, 0)), (8, (4, 35)), (7, (0, 1)), (6, (0, 1)), (4, (1, 0)), (0, (4, 0)), (1, (0, 2)), (2, (0, x2)), (3, (0, 1))]) (stN := [(4, 1), (4, 0)]) (hsC := []) (v := (0, 619)) (st2 := [(0, 619), (4, 1), (4, 0)]) (jA_242_380 (d := 0)) (by rfl) (by rfl) (by decide +kernel) (by rfl) (by rfl) (by omega) (by omega) (by omega) (by omega) rfl ?_
  refine jT_fR [0, 1, 2, 3, 4, 5, 6, 7, 8, 9, 10, 11, 12, 13, 14, 15] 36 (y := 203) (pcN := 184) (dC := 0) (bc1 := 0) (bc2 := 0) (c1 := 1) (c2 := 6) (as := [(4, 0), (4, 1), (0, 619)]) (asC := [(4, 0), (4, 1), (0, 619)]) (LN := [(9, (0, 0)), (8, (4, 35)), (7, (0, 1)), (6, (0, 1)), (4, (1, 0)), (0, (4, 0)), (1, (0, 2)), (2, (0, x2)), (3, (0, 1))]) (stN := []) (hsC := jpA_130) (v := (9, 0)) (st2 := []) (jA_203_383 (d := 0)) (by rfl) (by rfl) (by decide +kernel) (by rfl) (by rfl) (by omega) (by omega) (by omega) (by omega) rfl ?_
  refine jT_xiload_n (v := (0, 1)) (pcN := 185) jI_243_184 rfl rfl rfl ?_
  refine jT_xifT (pcN := 198) jI_243_185 rfl (by decide +kernel) rfl ?_
  refine jT_xaload_n (v := (4, 0)) (pcN := 199) jI_243_198 rfl rfl rfl ?_
  refine jT_fB [0, 1, 2, 3, 4, 5, 6, 7, 8, 9, 10, 11, 12, 13, 14, 15] 36 (y := 239) (pcN := 202) (dC := 1) (bc1 := 0) (bc2 := 0) (c1 := 1) (c2 := 6) (as := [(4, 0)]) (asC := [(4, 0)]) (LN := [(9, (0, 0)), (8, (4, 35)), (7, (0, 1)), (6, (0, 1)), (4, (1, 0)), (0, (4, 0)), (1, (0, 2)), (2, (0, x2)), (3, (0, 1))]) (stN := []) (hsC := jpA_1541) (hsD := jpA_1544) (v := (9, 0)) (st2 := []) (hs2 := jpA_1618) (jA_239_346 (d := 0)) (by rfl) (by rfl) (by decide +kernel) (by rfl) (by rfl) (by omega) (by omega) (by omega) (by omega) rfl (by decide +kernel) ?_
  refine jT_xiinc (x := 0) (z := 1) (LN := [(9, (0, 1)), (8, (4, 35)), (7, (0, 1)), (6, (0, 1)), (4, (1, 0)), (0, (4, 0)), (1, (0, 2)), (2, (0, x2)), (3, (0, 1))]) (pcN := 205) jI_243_202 rfl rfl (by decide) rfl rfl ?_
  refine jT_xgoto (pcN := 160) jI_243_205 rfl ?_
  refine jT_xiload (v := (0, 1)) (pcN := 162) jI_243_160 rfl rfl rfl ?_
  refine jT_xaload_n (v := (4, 0)) (pcN := 163) jI_243_162 rfl rfl rfl ?_
  refine jT_xiload_n (v := (0, 2)) (pcN := 164) jI_243_163 rfl rfl rfl ?_
  refine jT_fR [0, 1, 2, 3, 4, 5, 6, 7, 8, 9, 10, 11, 12, 13, 14, 15] 36 (y := 245) (pcN := 167) (dC := 0) (bc1 := 0) (bc2 := 0) (c1 := 1) (c2 := 6) (as := [(4, 0), (0, 2)]) (asC := [(4, 0), (0, 2)]) (LN := [(9, (0, 1)), (8, (4, 35)), (7, (0, 1)), (6, (0, 1)), (4, (1, 0)), (0, (4, 0)), (1, (0, 2)), (2, (0, x2)), (3, (0, 1))]) (stN := [(0, 1)]) (hsC := jpA_1545) (v := (0, 1)) (st2 := [(0, 1), (0, 1)]) (jA_245_384 (d := 0)) (by rfl) (by rfl) (by decide +kernel) (by rfl) (by rfl) (by omega) (by omega) (by omega) (by omega) rfl ?_
  refine jT_xicT (pcN := 208) jI_243_167 rfl (by decide +kernel) rfl ?_
  refine jT_xaload_n (v := (4, 0)) (pcN := 209) jI_243_208 rfl rfl rfl ?_
  refine jT_xaload (v := (4, 35)) (pcN := 211) jI_243_209 rfl rfl rfl ?_
  refine jT_xiconst (k := 0) (pcN := 212) jI_243_211 rfl ?_
  refine jT_fR [0, 35, 1, 2, 3, 4, 5, 6, 7, 8, 9, 10, 11, 12, 13, 14, 15] 36 (y := 203) (pcN := 215) (dC := 0) (bc1 := 0) (bc2 := 0) (c1 := 1) (c2 := 6) (as := [(4, 0), (4, 35), (0, 0)]) (asC := [(4, 0), (4, 1), (0, 0)]) (LN := [(9, (0, 1)), (8, (4, 35)), (7, (0, 1)), (6, (0, 1)), (4, (1, 0)), (0, (4, 0)), (1, (0, 2)), (2, (0, x2)), (3, (0, 1))]) (stN := []) (hsC := jpA_1547) (v := (9, 0)) (st2 := []) (jA_203_348 (d := 0)) (by rfl) (by rfl) (by decide +kernel) (by rfl) (by rfl) (by omega) (by omega) (by omega) (by omega) rfl ?_
  refine jT_xiload_n (v := (0, 1)) (pcN := 216) jI_243_215 rfl rfl rfl ?_
  refine jT_xifF (t := 223) (pcN := 219) jI_243_216 rfl (by decide +kernel) rfl rfl ?_
  refine jT_xaload_n (v := (4, 0)) (pcN := 220) jI_243_219 rfl rfl rfl ?_
  refine jT_fA [0, 1, 2, 3, 4, 5, 6, 7, 8, 9, 10, 11, 12, 13, 14, 15] 36 (y := 239) (pcN := 223) (dC := 3) (bc1 := 1) (bc2 := 6) (c1 := 0) (c2 := 0) (as := [(4, 0)]) (asC := [(4, 0)]) (LN := [(9, (0, 1)), (8, (4, 35)), (7, (0, 1)), (6, (0, 1)), (4, (1, 0)), (0, (4, 0)), (1, (0, 2)), (2, (0, x2)), (3, (0, 1))]) (stN := []) (hsC := jpA_1544) (ex := [(101, [], [0, 0, 0, 0, 0, 0])]) (v := (9, 0)) (st2 := []) (hs2 := jpA_1627) (jA_239_351 (d := 0)) (by rfl) (by rfl) (by decide +kernel) (by rfl) (by rfl) (by omega) (by omega) (by omega) (by omega) rfl (by decide +kernel) ?_
  refine jT_xaload_n (v := (4, 0)) (pcN := 224) jI_243_223 rfl rfl rfl ?_
  refine jT_xiload_n (v := (0, 2)) (pcN := 225) jI_243_224 rfl rfl rfl ?_
  refine jT_fB [0, 1, 2, 3, 4, 5, 6, 7, 8, 9, 10, 11, 12, 13, 14, 15, 16, 17, 18, 19, 20, 21, 22, 23] 37 (y := 241) (pcN := 228) (dC := 1) (bc1 := 0) (bc2 := 0) (c1 := 0) (c2 := 0) (as := [(4, 0), (0, 2)]) (asC := [(4, 0), (0, 2)]) (LN := [(9, (0, 1)), (8, (4, 35)), (7, (0, 1)), (6, (0, 1)), (4, (1, 0)), (0, (4, 0)), (1, (0, 2)), (2, (0, x2)), (3, (0, 1))]) (stN := []) (hsC := jpA_1558) (hsD := jpA_1660) (v := (0, 1)) (st2 := [(0, 1)]) (hs2 := jpA_1661) (jA_241_385 (d := 0)) (by rfl) (by rfl) (by decide +kernel) (by rfl) (by rfl) (by omega) (by omega) (by omega) (by omega) rfl (by decide +kernel) ?_
  refine jT_adv 1 (pcN := 229) (LN := [(9, (0, 1)), (8, (4, 35)), (7, (0, 1)), (6, (0, 1)), (4, (1, 0)), (0, (4, 0)), (1, (0, 2)), (2, (0, x2)), (3, (0, 1))]) (stN := []) (hsN := jpA_1661) (c1 := 0) (s1 := 0) (c2 := 0) (s2 := 0) (by exact rfl) ?_ (by omega) (by omega)
  refine jT_xiload (v := (0, 1)) (pcN := 231) jI_243_229 rfl rfl rfl ?_
  exact jT_ret rfl (by decide) (by show 30 ≤ 37; decide) (by omega) (by omega) ⟨rfl, rfl, rfl⟩
theorem jA_115_387 {xs : List Int} {d : Nat} : jT xs d 115 1 0 [(0, (4, 0)), (1, (0, 3)), (2, (0, 4))] [] [jgh] 0 0 (fun k v hsN => k = 0 ∧ v = (9, 0) ∧ hsN = [jgh] ++ []) := by
  refine jT_advK 5 (pcN := 20) (LN := [(0, (4, 0)), (1, (0, 3)), (2, (0, 4))]) (stN := []) (hsN := [jgh]) (c1 := 0) (s1 := 0) (c2 := 0) (s2 := 0) (by decide +kernel) ?_ (by omega) (by omega)
  exact jT_ret rfl (by decide) (by show 1 ≤ 1; decide) (by omega) (by omega) ⟨rfl, rfl, rfl⟩
theorem jA_56_388 {xs : List Int} {d : Nat} : jT xs d 56 10 0 [(0, (4, 0)), (1, (0, 3))] [] jpA_1446 0 0 (fun k v hsN => k = 0 ∧ v = (4, 9) ∧ hsN = jpA_1446 ++ []) := by
  refine jT_advK 4 (pcN := 6) (LN := [(0, (4, 0)), (1, (0, 3))]) (stN := [(4, 9)]) (hsN := jpA_1446) (c1 := 0) (s1 := 0) (c2 := 0) (s2 := 0) (by decide +kernel) ?_ (by omega) (by omega)
  exact jT_ret rfl (by decide) (by show 10 ≤ 10; decide) (by omega) (by omega) ⟨rfl, rfl, rfl⟩
def jpA_1662 : List JC := [jzA_55, (7, [(4, 7), (4, (-1)), (4, (-1))], []), jgh, (117, [], [8, 9, 10, 11]), jgh, jgh, jgh, jgh, jgh, jgh, jgh, jgh, (117, [], [8, 9, 10, 1]), jzA_51]
def jpA_1663 : List JC := [jzA_55, (7, [(4, 7), (4, (-1)), (4, (-1))], []), jgh, (117, [], [8, 9, 10, 11]), jgh, jgh, jgh, jgh, jgh, jgh, jgh, jgh, (117, [], [8, 9, 10, 1]), jzA_1459]
theorem jA_60_389 {xs : List Int} {d : Nat} : jT xs (d + 1) 60 12 0 [(0, (4, 0)), (1, (0, 3)), (2, (4, 1))] [] jpA_1461 2 9 (fun k v hsN => k = 0 ∧ v = (4, 13) ∧ hsN = jpA_1461 ++ [(117, [], [8, 9, 10, 1]), jzA_1459]) := by
  refine jT_advK 20 (pcN := 36) (LN := [(3, (4, 12)), (0, (4, 0)), (1, (0, 3)), (2, (4, 1))]) (stN := [(4, 6), (4, 5), (4, 4), (4, 12), (4, 2), (4, 13), (4, 13)]) (hsN := jpA_1662) (c1 := 2) (s1 := 9) (c2 := 0) (s2 := 0) (by decide +kernel) ?_ (by omega) (by omega)
  refine jT_fB [13, 2, 12, 4, 5, 6] 14 (y := 53) (pcN := 39) (dC := 0) (bc1 := 0) (bc2 := 0) (c1 := 0) (c2 := 0) (as := [(4, 13), (4, 2), (4, 12), (4, 4), (4, 5), (4, 6)]) (asC := [(4, 0), (4, 1), (4, 2), (4, 3), (4, 4), (4, 5)]) (LN := [(3, (4, 12)), (0, (4, 0)), (1, (0, 3)), (2, (4, 1))]) (stN := [(4, 13)]) (hsC := jpA_52) (hsD := jpA_50) (v := (9, 0)) (st2 := [(4, 13)]) (hs2 := jpA_1663) (jA_53_32 (d := 0)) (by rfl) (by rfl) (by decide +kernel) (by rfl) (by rfl) (by omega) (by omega) (by omega) (by omega) rfl (by decide +kernel) ?_
  exact jT_ret rfl (by decide) (by show 12 ≤ 14; decide) (by omega) (by omega) ⟨rfl, rfl, rfl⟩
def jpA_1664 : List JC := [jzA_5, (8, [(4, 12), (4, 13)], []), jgh, jgh, jgh, jgh, jgh, jgh, (101, [], [0, 0, 0, 0, 0, 0]), jgh, jzA_79, jzA_640, jgh, (101, [], [0, 0, 0, 0, 0, 0]), jzA_641, (117, [], [20, 21, 22, 23]), jgh, jgh, jgh, (4, [(4, 24), (1, 1)], []), jgh, jgh, jgh, (7, [(4, 25), (4, (-1)), (4, (-1))], []), (101, [], [0, 0, 0, 0, 0, 0]), (114, [], [19]), (101, [], [0, 0, 0, 0, 0, 0]), (4, [(4, 26), (1, 1)], [])]
def jpA_1665 : List JC := [jzA_5, (8, [(4, 12), (4, 13)], []), jgh, jgh, jgh, jgh, jgh, jgh, (101, [], [0, 0, 0, 0, 0, 0]), jgh, jzA_79, jzA_640, jgh, (101, [], [0, 0, 0, 0, 0, 0]), jzA_641, (117, [], [20, 21, 22, 23]), jgh, jgh, jgh, (4, [(4, 24), (1, 1)], []), jgh, jgh, jgh, (7, [(4, 25), (4, (-1)), (4, (-1))], []), (101, [], [0, 0, 0, 0, 0, 0]), (114, [], [19]), (101, [], [0, 0, 0, 0, 0, 0]), (4, [(4, 26), (1, 1)], []), (114, [], [19, (-1)]), (114, [], [19]), (7, [(4, 29), (4, (-1)), (4, (-1))], [])]
def jpA_1666 : List JC := [jzA_5, (8, [(4, 12), (4, 13)], []), jgh, jgh, jgh, jgh, jgh, jgh, (101, [], [0, 0, 0, 0, 0, 0]), jgh, jzA_79, jzA_640, jgh, (101, [], [0, 0, 0, 0, 0, 0]), jzA_641, (117, [], [20, 21, 22, 23]), jgh, jgh, jgh, (4, [(4, 24), (1, 1)], []), jgh, jgh, jgh, (7, [(4, 25), (4, (-1)), (4, (-1))], []), (101, [], [0, 0, 0, 0, 0, 0]), (114, [], [19]), (101, [], [0, 0, 0, 0, 0, 0]), (4, [(4, 26), (1, 1)], []), (114, [], [19, (-1)]), (114, [], [19]), (7, [(4, 29), (4, (-1)), (4, (-1))], []), (117, [], [20, 21, 22, 30]), jzA_1500]
def jpA_1667 : List JC := [jzA_1502, (8, [(4, 12), (4, 13)], []), jgh, jgh, jgh, jgh, jgh, jgh, (101, [], [0, 0, 0, 0, 0, 0]), jgh, jzA_102, jzA_640, jgh, (101, [], [0, 0, 0, 0, 0, 0]), jzA_641, (117, [], [20, 21, 22, 23]), jgh, jgh, jgh, (4, [(4, 24), (1, 1)], []), jgh, jgh, jgh, (7, [(4, 25), (4, (-1)), (4, (-1))], []), (101, [], [0, 0, 0, 0, 0, 0]), (114, [], [19]), (101, [], [0, 0, 0, 0, 0, 0]), (4, [(4, 26), (1, 1)], []), (114, [], [19, (-1)]), (114, [], [19]), (7, [(4, 29), (4, (-1)), (4, (-1))], []), (117, [], [20, 21, 22, 30]), jzA_1500]
def jpA_1668 : List JC := [jzA_5, (8, [(4, 12), (4, 13)], []), jgh, jgh, jgh, jgh, jgh, jgh, (101, [], [0, 0, 0, 0, 0, 0]), jgh, jzA_79, jzA_640, jgh, (101, [], [0, 0, 0, 0, 0, 0]), jzA_641, (117, [], [20, 21, 22, 23]), jgh, jgh, jgh, (4, [(4, 24), (1, 1)], []), jgh, jgh, jgh, (7, [(4, 25), (4, (-1)), (4, (-1))], []), (101, [], [0, 0, 0, 0, 0, 0]), (114, [], [19])]
theorem jA_128_390 {xs : List Int} {d : Nat} {x2 : Int} (h_x2 : 0 ≤ x2 ∧ x2 ≤ 7) : jT xs (d + 6) 128 26 0 [(0, (4, 0)), (1, (0, 3)), (2, (0, x2)), (3, (0, 1))] [] jpA_1668 7 23 (fun k v hsN => k = 0 ∧ v = (0, 1) ∧ hsN = jpA_1667) := by
  refine jT_xaload_n (v := (4, 0)) (pcN := 1) jI_128_0 rfl rfl rfl ?_
  refine jT_xiload_n (v := (0, 3)) (pcN := 2) jI_128_1 rfl rfl rfl ?_
  refine jT_xiconst (k := 4) (pcN := 3) jI_128_2 rfl ?_
  refine jT_fR [0] 26 (y := 115) (pcN := 6) (dC := 0) (bc1 := 0) (bc2 := 0) (c1 := 7) (c2 := 23) (as := [(4, 0), (0, 3), (0, 4)]) (asC := [(4, 0), (0, 3), (0, 4)]) (LN := [(0, (4, 0)), (1, (0, 3)), (2, (0, x2)), (3, (0, 1))]) (stN := []) (hsC := [jgh]) (v := (9, 0)) (st2 := []) (jA_115_387 (d := 0)) (by rfl) (by rfl) (by decide +kernel) (by rfl) (by rfl) (by omega) (by omega) (by omega) (by omega) rfl ?_
  refine jT_xaload_n (v := (4, 0)) (pcN := 7) jI_128_6 rfl rfl rfl ?_
  refine jT_xiload_n (v := (0, x2)) (pcN := 8) jI_128_7 rfl rfl rfl ?_
  refine jT_xbipush (k := 8) (pcN := 10) jI_128_8 (by decide) rfl ?_
  refine jT_fR [0] 26 (y := 115) (pcN := 13) (dC := 0) (bc1 := 0) (bc2 := 0) (c1 := 7) (c2 := 23) (as := [(4, 0), (0, x2), (0, 8)]) (asC := [(4, 0), (0, x2), (0, 8)]) (LN := [(0, (4, 0)), (1, (0, 3)), (2, (0, x2)), (3, (0, 1))]) (stN := []) (hsC := [jgh]) (v := (9, 0)) (st2 := []) (jA_115_16 (d := 0) (by omega)) (by rfl) (by rfl) (by decide +kernel) (by rfl) (by rfl) (by omega) (by omega) (by omega) (by omega) rfl ?_
  refine jT_xaload_n (v := (4, 0)) (pcN := 14) jI_128_13 rfl rfl rfl ?_
  refine jT_xgetf (a := 0) (t := 1) (ci := 13) (fi := 11) (c := jzA_5) (v := (4, 11)) (pcN := 17) jI_128_14 rfl rfl rfl rfl rfl rfl rfl ?_
  refine jT_xiload_n (v := (0, 3)) (pcN := 18) jI_128_17 rfl rfl rfl ?_
  refine jT_fR [11, 14, 15, 16, 17, 18, 20, 21, 22, 23] 26 (y := 56) (pcN := 21) (dC := 0) (bc1 := 0) (bc2 := 0) (c1 := 7) (c2 := 23) (as := [(4, 11), (0, 3)]) (asC := [(4, 0), (0, 3)]) (LN := [(0, (4, 0)), (1, (0, 3)), (2, (0, x2)), (3, (0, 1))]) (stN := []) (hsC := jpA_1446) (v := (4, 9)) (st2 := [(4, 23)]) (jA_56_388 (d := 0)) (by rfl) (by rfl) (by decide +kernel) (by rfl) (by rfl) (by omega) (by omega) (by omega) (by omega) rfl ?_
  refine jT_xastore (v := (4, 23)) (LN := [(4, (4, 23)), (0, (4, 0)), (1, (0, 3)), (2, (0, x2)), (3, (0, 1))]) (pcN := 23) jI_128_21 rfl rfl rfl rfl ?_
  refine jT_xaload_n (v := (4, 0)) (pcN := 24) jI_128_23 rfl rfl rfl ?_
  refine jT_xaload_n (v := (4, 0)) (pcN := 25) jI_128_24 rfl rfl rfl ?_
  refine jT_xgetf (a := 0) (t := 1) (ci := 13) (fi := 11) (c := jzA_5) (v := (4, 11)) (pcN := 28) jI_128_25 rfl rfl rfl rfl rfl rfl rfl ?_
  refine jT_xiload_n (v := (0, x2)) (pcN := 29) jI_128_28 rfl rfl rfl ?_
  refine jT_fR [11, 14, 15, 16, 17, 18, 19] 26 (y := 57) (pcN := 32) (dC := 0) (bc1 := 0) (bc2 := 0) (c1 := 7) (c2 := 23) (as := [(4, 11), (0, x2)]) (asC := [(4, 0), (0, x2)]) (LN := [(4, (4, 23)), (0, (4, 0)), (1, (0, 3)), (2, (0, x2)), (3, (0, 1))]) (stN := [(4, 0)]) (hsC := jpA_47) (v := (4, 6)) (st2 := [(4, 19), (4, 0)]) (jA_57_24 (d := 0) (by omega)) (by rfl) (by rfl) (by decide +kernel) (by rfl) (by rfl) (by omega) (by omega) (by omega) (by omega) rfl ?_
  refine jT_xiconst (k := 1) (pcN := 33) jI_128_32 rfl ?_
  refine jT_fA [0, 19, 1, 2, 3, 4, 5, 6, 7, 8, 9, 10, 11, 24, 12, 13] 26 (y := 127) (pcN := 36) (dC := 3) (bc1 := 2) (bc2 := 8) (c1 := 5) (c2 := 15) (as := [(4, 0), (4, 19), (0, 1)]) (asC := [(4, 0), (4, 1), (0, 1)]) (LN := [(4, (4, 23)), (0, (4, 0)), (1, (0, 3)), (2, (0, x2)), (3, (0, 1))]) (stN := []) (hsC := jpA_1447) (ex := [(101, [], [0, 0, 0, 0, 0, 0]), (4, [(4, 16), (1, 1)], [])]) (v := (4, 17)) (st2 := [(4, 27)]) (hs2 := jpA_1664) (jA_127_323 (d := 0)) (by rfl) (by rfl) (by decide +kernel) (by rfl) (by rfl) (by omega) (by omega) (by omega) (by omega) rfl (by decide +kernel) ?_
  refine jT_xastore (v := (4, 27)) (LN := [(5, (4, 27)), (4, (4, 23)), (0, (4, 0)), (1, (0, 3)), (2, (0, x2)), (3, (0, 1))]) (pcN := 38) jI_128_36 rfl rfl rfl rfl ?_
  refine jT_xaload (v := (4, 23)) (pcN := 40) jI_128_38 rfl rfl rfl ?_
  refine jT_xaload (v := (4, 27)) (pcN := 42) jI_128_40 rfl rfl rfl ?_
  refine jT_xaload_n (v := (4, 0)) (pcN := 43) jI_128_42 rfl rfl rfl ?_
  refine jT_xgetf (a := 0) (t := 1) (ci := 13) (fi := 0) (c := jzA_5) (v := (4, 1)) (pcN := 46) jI_128_43 rfl rfl rfl rfl rfl rfl rfl ?_
  refine jT_fR [23, 27, 1, 25, 26, 12, 13, 19, 24] 28 (y := 33) (pcN := 49) (dC := 4) (bc1 := 0) (bc2 := 0) (c1 := 5) (c2 := 15) (as := [(4, 23), (4, 27), (4, 1)]) (asC := [(4, 0), (4, 1), (4, 2)]) (LN := [(5, (4, 27)), (4, (4, 23)), (0, (4, 0)), (1, (0, 3)), (2, (0, x2)), (3, (0, 1))]) (stN := []) (hsC := jpA_1451) (v := (0, 0)) (st2 := [(0, 0)]) (jA_33_328 (d := 0)) (by rfl) (by rfl) (by decide +kernel) (by rfl) (by rfl) (by omega) (by omega) (by omega) (by omega) rfl ?_
  refine jT_xistore (v := (0, 0)) (LN := [(6, (0, 0)), (5, (4, 27)), (4, (4, 23)), (0, (4, 0)), (1, (0, 3)), (2, (0, x2)), (3, (0, 1))]) (pcN := 51) jI_128_49 rfl rfl rfl rfl ?_
  refine jT_xiload_n (v := (0, 1)) (pcN := 52) jI_128_51 rfl rfl rfl ?_
  refine jT_xifT (pcN := 79) jI_128_52 rfl (by decide +kernel) rfl ?_
  refine jT_xiload_n (v := (0, 1)) (pcN := 80) jI_128_79 rfl rfl rfl ?_
  refine jT_xifF (t := 108) (pcN := 83) jI_128_80 rfl (by decide +kernel) rfl rfl ?_
  refine jT_xiload (v := (0, 0)) (pcN := 85) jI_128_83 rfl rfl rfl ?_
  refine jT_xifT (pcN := 108) jI_128_85 rfl (by decide +kernel) rfl ?_
  refine jT_xiload_n (v := (0, 1)) (pcN := 109) jI_128_108 rfl rfl rfl ?_
  refine jT_xifF (t := 118) (pcN := 112) jI_128_109 rfl (by decide +kernel) rfl rfl ?_
  refine jT_xaload_n (v := (4, 0)) (pcN := 113) jI_128_112 rfl rfl rfl ?_
  refine jT_xaload (v := (4, 27)) (pcN := 115) jI_128_113 rfl rfl rfl ?_
  refine jT_fR [0, 27, 26] 28 (y := 117) (pcN := 118) (dC := 2) (bc1 := 0) (bc2 := 0) (c1 := 5) (c2 := 15) (as := [(4, 0), (4, 27)]) (asC := [(4, 0), (4, 1)]) (LN := [(6, (0, 0)), (5, (4, 27)), (4, (4, 23)), (0, (4, 0)), (1, (0, 3)), (2, (0, x2)), (3, (0, 1))]) (stN := []) (hsC := [jgh, (4, [(4, 2), (1, 1)], []), (101, [], [0, 0, 0, 0, 0, 0])]) (v := (9, 0)) (st2 := []) (jA_117_31 (d := 0)) (by rfl) (by rfl) (by decide +kernel) (by rfl) (by rfl) (by omega) (by omega) (by omega) (by omega) rfl ?_
  refine jT_xaload_n (v := (4, 0)) (pcN := 119) jI_128_118 rfl rfl rfl ?_
  refine jT_xaload_n (v := (4, 0)) (pcN := 120) jI_128_119 rfl rfl rfl ?_
  refine jT_xgetf (a := 0) (t := 1) (ci := 13) (fi := 11) (c := jzA_5) (v := (4, 11)) (pcN := 123) jI_128_120 rfl rfl rfl rfl rfl rfl rfl ?_
  refine jT_xiload_n (v := (0, 3)) (pcN := 124) jI_128_123 rfl rfl rfl ?_
  refine jT_xiload_n (v := (0, 1)) (pcN := 125) jI_128_124 rfl rfl rfl ?_
  refine jT_xifF (t := 142) (pcN := 128) jI_128_125 rfl (by decide +kernel) rfl rfl ?_
  refine jT_xaload (v := (4, 23)) (pcN := 130) jI_128_128 rfl rfl rfl ?_
  refine jT_xaload (v := (4, 27)) (pcN := 132) jI_128_130 rfl rfl rfl ?_
  refine jT_xaload_n (v := (4, 0)) (pcN := 133) jI_128_132 rfl rfl rfl ?_
  refine jT_xgetf (a := 0) (t := 1) (ci := 13) (fi := 0) (c := jzA_5) (v := (4, 1)) (pcN := 136) jI_128_133 rfl rfl rfl rfl rfl rfl rfl ?_
  refine jT_fA [23, 27, 1, 25, 26, 12, 13, 19, 24] 28 (y := 34) (pcN := 139) (dC := 5) (bc1 := 3) (bc2 := 6) (c1 := 2) (c2 := 9) (as := [(4, 23), (4, 27), (4, 1)]) (asC := [(4, 0), (4, 1), (4, 2)]) (LN := [(6, (0, 0)), (5, (4, 27)), (4, (4, 23)), (0, (4, 0)), (1, (0, 3)), (2, (0, x2)), (3, (0, 1))]) (stN := [(0, 3), (4, 11), (4, 0)]) (hsC := jpA_1451) (ex := [(114, [], [7, (-1)]), (114, [], [7]), (7, [(4, 10), (4, (-1)), (4, (-1))], [])]) (v := (4, 11)) (st2 := [(4, 30), (0, 3), (4, 11), (4, 0)]) (hs2 := jpA_1665) (jA_34_333 (d := 0)) (by rfl) (by rfl) (by decide +kernel) (by rfl) (by rfl) (by omega) (by omega) (by omega) (by omega) rfl (by decide +kernel) ?_
  refine jT_xgoto (pcN := 149) jI_128_139 rfl ?_
  refine jT_fA [11, 30, 14, 15, 16, 17, 18, 29, 20, 21, 22, 23] 31 (y := 60) (pcN := 152) (dC := 1) (bc1 := 2) (bc2 := 9) (c1 := 0) (c2 := 0) (as := [(4, 11), (0, 3), (4, 30)]) (asC := [(4, 0), (0, 3), (4, 1)]) (LN := [(6, (0, 0)), (5, (4, 27)), (4, (4, 23)), (0, (4, 0)), (1, (0, 3)), (2, (0, x2)), (3, (0, 1))]) (stN := [(4, 0)]) (hsC := jpA_1461) (ex := [(117, [], [8, 9, 10, 1]), jzA_1459]) (v := (4, 13)) (st2 := [(4, 32), (4, 0)]) (hs2 := jpA_1666) (jA_60_389 (d := 0)) (by rfl) (by rfl) (by decide +kernel) (by rfl) (by rfl) (by omega) (by omega) (by omega) (by omega) rfl (by decide +kernel) ?_
  refine jT_fB [0, 32, 1, 2, 3, 4, 5, 6, 7, 8, 9, 10, 11, 14, 15, 16, 17, 18] 33 (y := 100) (pcN := 155) (dC := 0) (bc1 := 0) (bc2 := 0) (c1 := 0) (c2 := 0) (as := [(4, 0), (4, 32)]) (asC := [(4, 0), (4, 1)]) (LN := [(6, (0, 0)), (5, (4, 27)), (4, (4, 23)), (0, (4, 0)), (1, (0, 3)), (2, (0, x2)), (3, (0, 1))]) (stN := []) (hsC := jpA_80) (hsD := jpA_78) (v := (9, 0)) (st2 := []) (hs2 := jpA_1667) (jA_100_34 (d := 0)) (by rfl) (by rfl) (by decide +kernel) (by rfl) (by rfl) (by omega) (by omega) (by omega) (by omega) rfl (by decide +kernel) ?_
  refine jT_xiload (v := (0, 0)) (pcN := 157) jI_128_155 rfl rfl rfl ?_
  refine jT_xifF (t := 164) (pcN := 160) jI_128_157 rfl (by decide +kernel) rfl rfl ?_
  refine jT_xiconst (k := 1) (pcN := 161) jI_128_160 rfl ?_
  refine jT_xgoto (pcN := 165) jI_128_161 rfl ?_
  exact jT_ret rfl (by decide) (by show 26 ≤ 33; decide) (by omega) (by omega) ⟨rfl, rfl, rfl⟩
def jpA_1669 : List JC := [jzA_1509, (101, [], [0]), (8, [(4, 13), (4, 14)], []), jgh, jgh, jgh, jgh, jgh, jgh, (101, [], [0, 0, 0, 0, 0, 0]), jgh, jzA_76, jzA_659, jgh, (101, [], [0, 0, 0, 0, 0, 0]), jzA_660, (117, [], [21, 22, 23, 24]), jgh, jgh, jgh, (4, [(4, 25), (1, 1)], []), jgh, jgh, jgh, (7, [(4, 26), (4, (-1)), (4, (-1))], []), (101, [], [0, 0, 0, 0, 0, 0]), (114, [], [20]), (101, [], [0, 0, 0, 0, 0, 0]), (4, [(4, 27), (1, 1)], []), (114, [], [20, (-1)]), (114, [], [20]), (7, [(4, 30), (4, (-1)), (4, (-1))], []), (117, [], [21, 22, 23, 31]), jzA_1510]
def jpA_1670 : List JC := [jzA_1509, (101, [], [1]), (8, [(4, 13), (4, 14)], []), jgh, jgh, jgh, jgh, jgh, jgh, (101, [], [0, 0, 0, 0, 0, 0]), jgh, jzA_76, jzA_659, jgh, (101, [], [0, 0, 0, 0, 0, 0]), jzA_660, (117, [], [21, 22, 23, 24]), jgh, jgh, jgh, (4, [(4, 25), (1, 1)], []), jgh, jgh, jgh, (7, [(4, 26), (4, (-1)), (4, (-1))], []), (101, [], [0, 0, 0, 0, 0, 0]), (114, [], [20]), (101, [], [0, 0, 0, 0, 0, 0]), (4, [(4, 27), (1, 1)], []), (114, [], [20, (-1)]), (114, [], [20]), (7, [(4, 30), (4, (-1)), (4, (-1))], []), (117, [], [21, 22, 23, 31]), jzA_1510]
def jpA_1671 : List JC := [jzA_14, (101, [], [0]), (8, [(4, 13), (4, 14)], []), jgh, jgh, jgh, jgh, jgh, jgh, (101, [], [0, 0, 0, 0, 0, 0]), jgh, jzA_79, jzA_659, jgh, (101, [], [0, 0, 0, 0, 0, 0]), jzA_660, (117, [], [21, 22, 23, 24]), jgh, jgh, jgh, (4, [(4, 25), (1, 1)], []), jgh, jgh, jgh, (7, [(4, 26), (4, (-1)), (4, (-1))], []), (101, [], [0, 0, 0, 0, 0, 0]), (114, [], [20])]
theorem jA_336_391 {xs : List Int} {d : Nat} {x2 : Int} (h_x2 : 0 ≤ x2 ∧ x2 ≤ 7) : jT xs (d + 7) 336 27 0 [(0, (4, 0)), (1, (0, 3)), (2, (0, x2)), (3, (0, 1)), (4, (4, 1))] [] jpA_1671 7 23 (fun k v hsN => k = 0 ∧ v = (0, 0) ∧ hsN = jpA_1670) := by
  refine jT_xaload (v := (4, 1)) (pcN := 2) jI_336_0 rfl rfl rfl ?_
  refine jT_xiconst (k := 0) (pcN := 3) jI_336_2 rfl ?_
  refine jT_xaload_n (v := (4, 0)) (pcN := 4) jI_336_3 rfl rfl rfl ?_
  refine jT_xiload_n (v := (0, 3)) (pcN := 5) jI_336_4 rfl rfl rfl ?_
  refine jT_xiload_n (v := (0, x2)) (pcN := 6) jI_336_5 rfl rfl rfl ?_
  refine jT_xiload_n (v := (0, 1)) (pcN := 7) jI_336_6 rfl rfl rfl ?_
  refine jT_fB [0, 2, 3, 4, 5, 6, 7, 8, 9, 10, 11, 12, 13, 14, 15, 16, 17, 18, 19, 20, 21, 22, 23, 24, 25, 26] 27 (y := 128) (pcN := 10) (dC := 6) (bc1 := 7) (bc2 := 23) (c1 := 0) (c2 := 0) (as := [(4, 0), (0, 3), (0, x2), (0, 1)]) (asC := [(4, 0), (0, 3), (0, x2), (0, 1)]) (LN := [(0, (4, 0)), (1, (0, 3)), (2, (0, x2)), (3, (0, 1)), (4, (4, 1))]) (stN := [(0, 0), (4, 1)]) (hsC := jpA_1668) (hsD := jpA_1667) (v := (0, 1)) (st2 := [(0, 1), (0, 0), (4, 1)]) (hs2 := jpA_1669) (jA_128_390 (d := 0) (by omega)) (by rfl) (by rfl) (by decide +kernel) (by rfl) (by rfl) (by omega) (by omega) (by omega) (by omega) rfl (by decide +kernel) ?_
  refine jT_xifF (t := 17) (pcN := 13) jI_336_10 rfl (by decide +kernel) rfl rfl ?_
  refine jT_xlconst (z := 1) (pcN := 14) jI_336_13 rfl rfl ?_
  refine jT_xgoto (pcN := 18) jI_336_14 rfl ?_
  refine jT_adv 1 (pcN := 19) (LN := [(0, (4, 0)), (1, (0, 3)), (2, (0, x2)), (3, (0, 1)), (4, (4, 1))]) (stN := []) (hsN := jpA_1670) (c1 := 0) (s1 := 0) (c2 := 0) (s2 := 0) (by exact rfl) ?_ (by omega) (by omega)
  refine jT_xgoto (pcN := 34) jI_336_19 rfl ?_
  refine jT_xiconst (k := 0) (pcN := 35) jI_336_34 rfl ?_
  exact jT_ret rfl (by decide) (by show 27 ≤ 34; decide) (by omega) (by omega) ⟨rfl, rfl, rfl⟩
theorem jA_189_392 {xs : List Int} {d : Nat} : jT xs d 189 0 0 [(0, (1, 3)), (2, (1, 0)), (4, (1, 3))] [] [] 0 0 (fun k v hsN => k = 0 ∧ v = (0, 1) ∧ hsN = [] ++ []) := by
  refine jT_advK 10 (pcN := 18) (LN := [(0, (1, 3)), (2, (1, 0)), (4, (1, 3))]) (stN := [(0, 1)]) (hsN := []) (c1 := 0) (s1 := 0) (c2 := 0) (s2 := 0) (by decide +kernel) ?_ (by omega) (by omega)
  exact jT_ret rfl (by decide) (by show 0 ≤ 0; decide) (by omega) (by omega) ⟨rfl, rfl, rfl⟩
theorem jA_238_393 {xs : List Int} {d : Nat} : jT xs (d + 1) 238 0 0 [(0, (0, 3))] [] [] 0 0 (fun k v hsN => k = 0 ∧ v = (0, 1) ∧ hsN = [] ++ []) := by
  refine jT_advK 4 (pcN := 6) (LN := [(0, (0, 3))]) (stN := [(1, 3), (1, 0), (1, 3)]) (hsN := []) (c1 := 0) (s1 := 0) (c2 := 0) (s2 := 0) (by decide +kernel) ?_ (by omega) (by omega)
  refine jT_fR [] 0 (y := 189) (pcN := 9) (dC := 0) (bc1 := 0) (bc2 := 0) (c1 := 0) (c2 := 0) (as := [(1, 3), (1, 0), (1, 3)]) (asC := [(1, 3), (1, 0), (1, 3)]) (LN := [(0, (0, 3))]) (stN := []) (hsC := []) (v := (0, 1)) (st2 := [(0, 1)]) (jA_189_392 (d := 0)) (by rfl) (by rfl) (by decide +kernel) (by rfl) (by rfl) (by omega) (by omega) (by omega) (by omega) rfl ?_
  exact jT_ret rfl (by decide) (by show 0 ≤ 0; decide) (by omega) (by omega) ⟨rfl, rfl, rfl⟩
theorem jA_245_394 {xs : List Int} {d : Nat} : jT xs d 245 16 0 [(0, (4, 0)), (1, (0, 3))] [] jpA_1519 0 0 (fun k v hsN => k = 0 ∧ v = (0, 1) ∧ hsN = jpA_1519 ++ []) := by
  refine jT_advK 7 (pcN := 12) (LN := [(0, (4, 0)), (1, (0, 3))]) (stN := [(0, 899), (4, 1)]) (hsN := jpA_1519) (c1 := 0) (s1 := 0) (c2 := 0) (s2 := 0) (by decide +kernel) ?_ (by omega) (by omega)
  refine jT_iald (x := 1) (a := 1) (j := 899) (fs := []) (X := jS0) (by rfl) (by rfl) (by rfl) (by rfl) (by decide +kernel) ?_
  refine jT_eq (LN := [(0, (4, 0)), (1, (0, 3))]) (stN := [(0, 1)]) (hsN := jpA_1519) rfl rfl rfl ?_
  exact jT_ret rfl (by decide) (by show 16 ≤ 16; decide) (by omega) (by omega) ⟨rfl, rfl, rfl⟩
theorem jA_242_395 {xs : List Int} {d : Nat} : jT xs d 242 0 0 [(0, (0, 3)), (1, (0, 0))] [] [] 0 0 (fun k v hsN => k = 0 ∧ v = (0, 900) ∧ hsN = [] ++ []) := by
  refine jT_advK 11 (pcN := 15) (LN := [(0, (0, 3)), (1, (0, 0))]) (stN := [(0, 900)]) (hsN := []) (c1 := 0) (s1 := 0) (c2 := 0) (s2 := 0) (by decide +kernel) ?_ (by omega) (by omega)
  exact jT_ret rfl (by decide) (by show 0 ≤ 0; decide) (by omega) (by omega) ⟨rfl, rfl, rfl⟩
theorem jA_236_396 {xs : List Int} {d : Nat} : jT xs d 236 16 0 [(0, (4, 0)), (1, (4, 1)), (2, (0, 900))] [] jpA_130 0 0 (fun k v hsN => k = 0 ∧ v = (0, 1) ∧ hsN = jpA_130 ++ []) := by
  refine jT_advK 6 (pcN := 9) (LN := [(0, (4, 0)), (1, (4, 1)), (2, (0, 900))]) (stN := [(0, 906), (4, 1), (1, 1)]) (hsN := jpA_130) (c1 := 0) (s1 := 0) (c2 := 0) (s2 := 0) (by decide +kernel) ?_ (by omega) (by omega)
  refine jT_iald (x := 1) (a := 1) (j := 906) (fs := []) (X := jS0) (by rfl) (by rfl) (by rfl) (by rfl) (by decide +kernel) ?_
  refine jT_eq (LN := [(0, (4, 0)), (1, (4, 1)), (2, (0, 900))]) (stN := [(0, 1), (1, 1)]) (hsN := jpA_130) rfl rfl rfl ?_
  refine jT_advK 21 (pcN := 47) (LN := [(4, (0, 0)), (3, (0, 1)), (0, (4, 0)), (1, (4, 1)), (2, (0, 900))]) (stN := [(0, 900), (4, 1), (1, 0)]) (hsN := jpA_130) (c1 := 0) (s1 := 0) (c2 := 0) (s2 := 0) (by decide +kernel) ?_ (by omega) (by omega)
  refine jT_iald (x := 0) (a := 1) (j := 900) (fs := []) (X := jS0) (by rfl) (by rfl) (by rfl) (by rfl) (by decide +kernel) ?_
  refine jT_eq (LN := [(4, (0, 0)), (3, (0, 1)), (0, (4, 0)), (1, (4, 1)), (2, (0, 900))]) (stN := [(0, 0), (1, 0)]) (hsN := jpA_130) rfl rfl rfl ?_
  refine jT_advK 21 (pcN := 47) (LN := [(4, (0, 1)), (3, (0, 1)), (0, (4, 0)), (1, (4, 1)), (2, (0, 900))]) (stN := [(0, 901), (4, 1), (1, 0)]) (hsN := jpA_130) (c1 := 0) (s1 := 0) (c2 := 0) (s2 := 0) (by decide +kernel) ?_ (by omega) (by omega)
  refine jT_iald (x := 0) (a := 1) (j := 901) (fs := []) (X := jS0) (by rfl) (by rfl) (by rfl) (by rfl) (by decide +kernel) ?_
  refine jT_eq (LN := [(4, (0, 1)), (3, (0, 1)), (0, (4, 0)), (1, (4, 1)), (2, (0, 900))]) (stN := [(0, 0), (1, 0)]) (hsN := jpA_130) rfl rfl rfl ?_
  refine jT_advK 21 (pcN := 47) (LN := [(4, (0, 2)), (3, (0, 1)), (0, (4, 0)), (1, (4, 1)), (2, (0, 900))]) (stN := [(0, 902), (4, 1), (1, 0)]) (hsN := jpA_130) (c1 := 0) (s1 := 0) (c2 := 0) (s2 := 0) (by decide +kernel) ?_ (by omega) (by omega)
  refine jT_iald (x := 0) (a := 1) (j := 902) (fs := []) (X := jS0) (by rfl) (by rfl) (by rfl) (by rfl) (by decide +kernel) ?_
  refine jT_eq (LN := [(4, (0, 2)), (3, (0, 1)), (0, (4, 0)), (1, (4, 1)), (2, (0, 900))]) (stN := [(0, 0), (1, 0)]) (hsN := jpA_130) rfl rfl rfl ?_
  refine jT_advK 21 (pcN := 47) (LN := [(4, (0, 3)), (3, (0, 1)), (0, (4, 0)), (1, (4, 1)), (2, (0, 900))]) (stN := [(0, 903), (4, 1), (1, 0)]) (hsN := jpA_130) (c1 := 0) (s1 := 0) (c2 := 0) (s2 := 0) (by decide +kernel) ?_ (by omega) (by omega)
  refine jT_iald (x := 0) (a := 1) (j := 903) (fs := []) (X := jS0) (by rfl) (by rfl) (by rfl) (by rfl) (by decide +kernel) ?_
  refine jT_eq (LN := [(4, (0, 3)), (3, (0, 1)), (0, (4, 0)), (1, (4, 1)), (2, (0, 900))]) (stN := [(0, 0), (1, 0)]) (hsN := jpA_130) rfl rfl rfl ?_
  refine jT_advK 21 (pcN := 47) (LN := [(4, (0, 4)), (3, (0, 1)), (0, (4, 0)), (1, (4, 1)), (2, (0, 900))]) (stN := [(0, 904), (4, 1), (1, 0)]) (hsN := jpA_130) (c1 := 0) (s1 := 0) (c2 := 0) (s2 := 0) (by decide +kernel) ?_ (by omega) (by omega)
  refine jT_iald (x := 0) (a := 1) (j := 904) (fs := []) (X := jS0) (by rfl) (by rfl) (by rfl) (by rfl) (by decide +kernel) ?_
  refine jT_eq (LN := [(4, (0, 4)), (3, (0, 1)), (0, (4, 0)), (1, (4, 1)), (2, (0, 900))]) (stN := [(0, 0), (1, 0)]) (hsN := jpA_130) rfl rfl rfl ?_
  refine jT_advK 21 (pcN := 47) (LN := [(4, (0, 5)), (3, (0, 1)), (0, (4, 0)), (1, (4, 1)), (2, (0, 900))]) (stN := [(0, 905), (4, 1), (1, 0)]) (hsN := jpA_130) (c1 := 0) (s1 := 0) (c2 := 0) (s2 := 0) (by decide +kernel) ?_ (by omega) (by omega)
  refine jT_iald (x := 0) (a := 1) (j := 905) (fs := []) (X := jS0) (by rfl) (by rfl) (by rfl) (by rfl) (by decide +kernel) ?_
  refine jT_eq (LN := [(4, (0, 5)), (3, (0, 1)), (0, (4, 0)), (1, (4, 1)), (2, (0, 900))]) (stN := [(0, 0), (1, 0)]) (hsN := jpA_130) rfl rfl rfl ?_
  refine jT_advK 12 (pcN := 66) (LN := [(4, (0, 6)), (3, (0, 1)), (0, (4, 0)), (1, (4, 1)), (2, (0, 900))]) (stN := [(0, 1)]) (hsN := jpA_130) (c1 := 0) (s1 := 0) (c2 := 0) (s2 := 0) (by decide +kernel) ?_ (by omega) (by omega)
  exact jT_ret rfl (by decide) (by show 16 ≤ 16; decide) (by omega) (by omega) ⟨rfl, rfl, rfl⟩
theorem jA_244_397 {xs : List Int} {d : Nat} : jT xs (d + 1) 244 16 0 [(0, (4, 0)), (1, (0, 3))] [] jpA_130 0 0 (fun k v hsN => k = 0 ∧ v = (0, 1) ∧ hsN = jpA_130 ++ []) := by
  refine jT_advK 5 (pcN := 5) (LN := [(2, (0, 0)), (0, (4, 0)), (1, (0, 3))]) (stN := [(0, 3), (4, 0), (0, 0)]) (hsN := jpA_130) (c1 := 0) (s1 := 0) (c2 := 0) (s2 := 0) (by decide +kernel) ?_ (by omega) (by omega)
  refine jT_fR [0, 1, 2, 3, 4, 5, 6, 7, 8, 9, 10, 11, 12, 13, 14, 15] 16 (y := 245) (pcN := 8) (dC := 0) (bc1 := 0) (bc2 := 0) (c1 := 0) (c2 := 0) (as := [(4, 0), (0, 3)]) (asC := [(4, 0), (0, 3)]) (LN := [(2, (0, 0)), (0, (4, 0)), (1, (0, 3))]) (stN := [(0, 0)]) (hsC := jpA_1519) (v := (0, 1)) (st2 := [(0, 1), (0, 0)]) (jA_245_394 (d := 0)) (by rfl) (by rfl) (by decide +kernel) (by rfl) (by rfl) (by omega) (by omega) (by omega) (by omega) rfl ?_
  refine jT_advK 6 (pcN := 18) (LN := [(2, (0, 0)), (0, (4, 0)), (1, (0, 3))]) (stN := [(0, 0), (0, 3), (4, 1), (4, 0)]) (hsN := jpA_130) (c1 := 0) (s1 := 0) (c2 := 0) (s2 := 0) (by decide +kernel) ?_ (by omega) (by omega)
  refine jT_fR [] 16 (y := 242) (pcN := 21) (dC := 0) (bc1 := 0) (bc2 := 0) (c1 := 0) (c2 := 0) (as := [(0, 3), (0, 0)]) (asC := [(0, 3), (0, 0)]) (LN := [(2, (0, 0)), (0, (4, 0)), (1, (0, 3))]) (stN := [(4, 1), (4, 0)]) (hsC := []) (v := (0, 900)) (st2 := [(0, 900), (4, 1), (4, 0)]) (jA_242_395 (d := 0)) (by rfl) (by rfl) (by decide +kernel) (by rfl) (by rfl) (by omega) (by omega) (by omega) (by omega) rfl ?_
  refine jT_fR [0, 1, 2, 3, 4, 5, 6, 7, 8, 9, 10, 11, 12, 13, 14, 15] 16 (y := 236) (pcN := 24) (dC := 0) (bc1 := 0) (bc2 := 0) (c1 := 0) (c2 := 0) (as := [(4, 0), (4, 1), (0, 900)]) (asC := [(4, 0), (4, 1), (0, 900)]) (LN := [(2, (0, 0)), (0, (4, 0)), (1, (0, 3))]) (stN := []) (hsC := jpA_130) (v := (0, 1)) (st2 := [(0, 1)]) (jA_236_396 (d := 0)) (by rfl) (by rfl) (by decide +kernel) (by rfl) (by rfl) (by omega) (by omega) (by omega) (by omega) rfl ?_
  refine jT_advK 2 (pcN := 28) (LN := [(2, (0, 0)), (0, (4, 0)), (1, (0, 3))]) (stN := [(0, 1)]) (hsN := jpA_130) (c1 := 0) (s1 := 0) (c2 := 0) (s2 := 0) (by decide +kernel) ?_ (by omega) (by omega)
  exact jT_ret rfl (by decide) (by show 16 ≤ 16; decide) (by omega) (by omega) ⟨rfl, rfl, rfl⟩
theorem jA_203_398 {xs : List Int} {d : Nat} : jT xs d 203 16 0 [(0, (4, 0)), (1, (4, 1)), (2, (0, 900))] [] jpA_130 0 0 (fun k v hsN => k = 0 ∧ v = (9, 0) ∧ hsN = jpA_130 ++ []) := by
  refine jT_advK 12 (pcN := 17) (LN := [(3, (0, 0)), (0, (4, 0)), (1, (4, 1)), (2, (0, 900))]) (stN := [(0, 900), (4, 1), (0, 0), (4, 7)]) (hsN := jpA_130) (c1 := 0) (s1 := 0) (c2 := 0) (s2 := 0) (by decide +kernel) ?_ (by omega) (by omega)
  refine jT_iald (x := 0) (a := 1) (j := 900) (fs := []) (X := jS0) (by rfl) (by rfl) (by rfl) (by rfl) (by decide +kernel) ?_
  refine jT_eq (LN := [(3, (0, 0)), (0, (4, 0)), (1, (4, 1)), (2, (0, 900))]) (stN := [(0, 0), (0, 0), (4, 7)]) (hsN := jpA_130) rfl rfl rfl ?_
  refine jT_advK 14 (pcN := 17) (LN := [(3, (0, 1)), (0, (4, 0)), (1, (4, 1)), (2, (0, 900))]) (stN := [(0, 901), (4, 1), (0, 1), (4, 7)]) (hsN := jpA_130) (c1 := 0) (s1 := 0) (c2 := 0) (s2 := 0) (by decide +kernel) ?_ (by omega) (by omega)
  refine jT_iald (x := 0) (a := 1) (j := 901) (fs := []) (X := jS0) (by rfl) (by rfl) (by rfl) (by rfl) (by decide +kernel) ?_
  refine jT_eq (LN := [(3, (0, 1)), (0, (4, 0)), (1, (4, 1)), (2, (0, 900))]) (stN := [(0, 0), (0, 1), (4, 7)]) (hsN := jpA_130) rfl rfl rfl ?_
  refine jT_advK 14 (pcN := 17) (LN := [(3, (0, 2)), (0, (4, 0)), (1, (4, 1)), (2, (0, 900))]) (stN := [(0, 902), (4, 1), (0, 2), (4, 7)]) (hsN := jpA_130) (c1 := 0) (s1 := 0) (c2 := 0) (s2 := 0) (by decide +kernel) ?_ (by omega) (by omega)
  refine jT_iald (x := 0) (a := 1) (j := 902) (fs := []) (X := jS0) (by rfl) (by rfl) (by rfl) (by rfl) (by decide +kernel) ?_
  refine jT_eq (LN := [(3, (0, 2)), (0, (4, 0)), (1, (4, 1)), (2, (0, 900))]) (stN := [(0, 0), (0, 2), (4, 7)]) (hsN := jpA_130) rfl rfl rfl ?_
  refine jT_advK 14 (pcN := 17) (LN := [(3, (0, 3)), (0, (4, 0)), (1, (4, 1)), (2, (0, 900))]) (stN := [(0, 903), (4, 1), (0, 3), (4, 7)]) (hsN := jpA_130) (c1 := 0) (s1 := 0) (c2 := 0) (s2 := 0) (by decide +kernel) ?_ (by omega) (by omega)
  refine jT_iald (x := 0) (a := 1) (j := 903) (fs := []) (X := jS0) (by rfl) (by rfl) (by rfl) (by rfl) (by decide +kernel) ?_
  refine jT_eq (LN := [(3, (0, 3)), (0, (4, 0)), (1, (4, 1)), (2, (0, 900))]) (stN := [(0, 0), (0, 3), (4, 7)]) (hsN := jpA_130) rfl rfl rfl ?_
  refine jT_advK 14 (pcN := 17) (LN := [(3, (0, 4)), (0, (4, 0)), (1, (4, 1)), (2, (0, 900))]) (stN := [(0, 904), (4, 1), (0, 4), (4, 7)]) (hsN := jpA_130) (c1 := 0) (s1 := 0) (c2 := 0) (s2 := 0) (by decide +kernel) ?_ (by omega) (by omega)
  refine jT_iald (x := 0) (a := 1) (j := 904) (fs := []) (X := jS0) (by rfl) (by rfl) (by rfl) (by rfl) (by decide +kernel) ?_
  refine jT_eq (LN := [(3, (0, 4)), (0, (4, 0)), (1, (4, 1)), (2, (0, 900))]) (stN := [(0, 0), (0, 4), (4, 7)]) (hsN := jpA_130) rfl rfl rfl ?_
  refine jT_advK 14 (pcN := 17) (LN := [(3, (0, 5)), (0, (4, 0)), (1, (4, 1)), (2, (0, 900))]) (stN := [(0, 905), (4, 1), (0, 5), (4, 7)]) (hsN := jpA_130) (c1 := 0) (s1 := 0) (c2 := 0) (s2 := 0) (by decide +kernel) ?_ (by omega) (by omega)
  refine jT_iald (x := 0) (a := 1) (j := 905) (fs := []) (X := jS0) (by rfl) (by rfl) (by rfl) (by rfl) (by decide +kernel) ?_
  refine jT_eq (LN := [(3, (0, 5)), (0, (4, 0)), (1, (4, 1)), (2, (0, 900))]) (stN := [(0, 0), (0, 5), (4, 7)]) (hsN := jpA_130) rfl rfl rfl ?_
  refine jT_advK 12 (pcN := 32) (LN := [(3, (0, 6)), (0, (4, 0)), (1, (4, 1)), (2, (0, 900))]) (stN := [(0, 906), (4, 1), (4, 0)]) (hsN := jpA_130) (c1 := 0) (s1 := 0) (c2 := 0) (s2 := 0) (by decide +kernel) ?_ (by omega) (by omega)
  refine jT_iald (x := 1) (a := 1) (j := 906) (fs := []) (X := jS0) (by rfl) (by rfl) (by rfl) (by rfl) (by decide +kernel) ?_
  refine jT_eq (LN := [(3, (0, 6)), (0, (4, 0)), (1, (4, 1)), (2, (0, 900))]) (stN := [(0, 1), (4, 0)]) (hsN := jpA_130) rfl rfl rfl ?_
  refine jT_advK 2 (pcN := 37) (LN := [(3, (0, 6)), (0, (4, 0)), (1, (4, 1)), (2, (0, 900))]) (stN := []) (hsN := jpA_130) (c1 := 0) (s1 := 0) (c2 := 0) (s2 := 0) (by decide +kernel) ?_ (by omega) (by omega)
  exact jT_ret rfl (by decide) (by show 16 ≤ 16; decide) (by omega) (by omega) ⟨rfl, rfl, rfl⟩
theorem jA_245_399 {xs : List Int} {d : Nat} : jT xs d 245 16 0 [(0, (4, 0)), (1, (0, 3))] [] jpA_1545 0 0 (fun k v hsN => k = 0 ∧ v = (0, 1) ∧ hsN = jpA_1545 ++ []) := by
  refine jT_advK 7 (pcN := 12) (LN := [(0, (4, 0)), (1, (0, 3))]) (stN := [(0, 899), (4, 1)]) (hsN := jpA_1545) (c1 := 0) (s1 := 0) (c2 := 0) (s2 := 0) (by decide +kernel) ?_ (by omega) (by omega)
  refine jT_iald (x := 1) (a := 1) (j := 899) (fs := []) (X := jS0) (by rfl) (by rfl) (by rfl) (by rfl) (by decide +kernel) ?_
  refine jT_eq (LN := [(0, (4, 0)), (1, (0, 3))]) (stN := [(0, 1)]) (hsN := jpA_1545) rfl rfl rfl ?_
  exact jT_ret rfl (by decide) (by show 16 ≤ 16; decide) (by omega) (by omega) ⟨rfl, rfl, rfl⟩
def jpA_1672 : List JC := [jzA_1556, (100, [], ((jS0).set 899 1)), (100, [], []), jzA_196, jzA_201, jgh, jgh, jgh, jzA_1539, jgh, jgh, jgh, jgh, jgh, jgh, jgh, (100, [], jS0), jgh, jgh, jgh, jgh, jgh, jgh, jgh]
def jzA_1673 : JC := (100, [], (jcpy (((((((((((((((List.replicate 1792 0)).set 0 0)).set 1 0)).set 2 0)).set 3 0)).set 4 0)).set 5 0)).set 6 1) ((jS0).set 899 1) 0 900 7))
def jpA_1674 : List JC := [jzA_1556, jzA_1673, (100, [], []), jzA_196, jzA_201, jgh, jgh, jgh, jzA_1539, jgh, jgh, jgh, jgh, jgh, jgh, jgh, (100, [], jS0), jgh, jgh, jgh, jgh, jgh, jgh, jgh]
theorem jA_241_400 {xs : List Int} {d : Nat} : jT xs (d + 1) 241 24 0 [(0, (4, 0)), (1, (0, 3))] [] jpA_1558 0 0 (fun k v hsN => k = 0 ∧ v = (0, 1) ∧ hsN = jpA_1674) := by
  refine jT_advK 1 (pcN := 1) (LN := [(0, (4, 0)), (1, (0, 3))]) (stN := [(4, 0)]) (hsN := jpA_1558) (c1 := 0) (s1 := 0) (c2 := 0) (s2 := 0) (by decide +kernel) ?_ (by omega) (by omega)
  refine jT_fB [0, 1, 2, 3, 4, 5, 6, 7, 8, 9, 10, 11, 12, 13, 14, 15, 16, 17, 18, 19, 20, 21, 22, 23] 24 (y := 195) (pcN := 4) (dC := 0) (bc1 := 0) (bc2 := 0) (c1 := 0) (c2 := 0) (as := [(4, 0)]) (asC := [(4, 0)]) (LN := [(0, (4, 0)), (1, (0, 3))]) (stN := []) (hsC := jpA_1554) (hsD := jpA_1557) (v := (9, 0)) (st2 := []) (hs2 := jpA_1559) (jA_195_352 (d := 0)) (by rfl) (by rfl) (by decide +kernel) (by rfl) (by rfl) (by omega) (by omega) (by omega) (by omega) rfl (by decide +kernel) ?_
  refine jT_advK 9 (pcN := 20) (LN := [(0, (4, 0)), (1, (0, 3))]) (stN := [(0, 1), (0, 899), (4, 1)]) (hsN := jpA_1559) (c1 := 0) (s1 := 0) (c2 := 0) (s2 := 0) (by decide +kernel) ?_ (by omega) (by omega)
  refine jT_iast (x := 1) (a := 1) (j := 899) (fs := []) (X := jS0) (by rfl) (by rfl) (by rfl) (by rfl) (by rw [show List.length (jS0 : List Int) = 1613 from jS0_len]; omega) ?_
  refine jT_eq (LN := [(0, (4, 0)), (1, (0, 3))]) (stN := []) (hsN := jpA_1672) rfl rfl rfl ?_
  refine jT_advK 7 (pcN := 32) (LN := [(0, (4, 0)), (1, (0, 3))]) (stN := [(0, 0), (0, 3), (4, 1), (0, 0), (4, 8)]) (hsN := jpA_1672) (c1 := 0) (s1 := 0) (c2 := 0) (s2 := 0) (by decide +kernel) ?_ (by omega) (by omega)
  refine jT_fR [] 24 (y := 242) (pcN := 35) (dC := 0) (bc1 := 0) (bc2 := 0) (c1 := 0) (c2 := 0) (as := [(0, 3), (0, 0)]) (asC := [(0, 3), (0, 0)]) (LN := [(0, (4, 0)), (1, (0, 3))]) (stN := [(4, 1), (0, 0), (4, 8)]) (hsC := []) (v := (0, 900)) (st2 := [(0, 900), (4, 1), (0, 0), (4, 8)]) (jA_242_395 (d := 0)) (by rfl) (by rfl) (by decide +kernel) (by rfl) (by rfl) (by omega) (by omega) (by omega) (by omega) rfl ?_
  refine jT_advK 4 (pcN := 42) (LN := [(0, (4, 0)), (1, (0, 3))]) (stN := [(0, 7), (0, 900), (4, 1), (0, 0), (4, 8)]) (hsN := jpA_1672) (c1 := 0) (s1 := 0) (c2 := 0) (s2 := 0) (by decide +kernel) ?_ (by omega) (by omega)
  refine jT_cpy (a := 8) (b := 1) (s0 := 0) (d0 := 900) (n := 7) (k := 100) (X := (((((((((((((((List.replicate 1792 0)).set 0 0)).set 1 0)).set 2 0)).set 3 0)).set 4 0)).set 5 0)).set 6 1)) (Y := ((jS0).set 899 1)) (by rfl) (by rfl) (by rfl) (by rfl) (by rfl) (by rfl) (by rfl) (by decide) (by decide) (by decide) (by rw [show List.length ((((((((((((((((List.replicate 1792 0)).set 0 0)).set 1 0)).set 2 0)).set 3 0)).set 4 0)).set 5 0)).set 6 1) : List Int) = 1792 from by rw [List.length_set, List.length_set, List.length_set, List.length_set, List.length_set, List.length_set, List.length_set]; exact (List.length_replicate)]; decide) (by rw [show List.length (((jS0).set 899 1) : List Int) = 1613 from by rw [List.length_set]; exact (jS0_len)]; omega) ?_
  refine jT_eq (LN := [(0, (4, 0)), (1, (0, 3))]) (stN := []) (hsN := jpA_1674) rfl rfl rfl ?_
  refine jT_advK 2 (pcN := 49) (LN := [(0, (4, 0)), (1, (0, 3))]) (stN := [(0, 1)]) (hsN := jpA_1674) (c1 := 0) (s1 := 0) (c2 := 0) (s2 := 0) (by decide +kernel) ?_ (by omega) (by omega)
  exact jT_ret rfl (by decide) (by show 24 ≤ 24; decide) (by omega) (by omega) ⟨rfl, rfl, rfl⟩
def jpA_1675 : List JC := [jzA_1556, jzA_1673, (100, [], []), jzA_196, jzA_201, jgh, (130, [], [24, 25, 26, 27, 28, 29]), (101, [], [0, 0, 0, 0, 0, 0]), jzA_1539, jgh, jgh, jgh, jgh, jgh, jgh, jgh, (100, [], jS0), jgh, jgh, jgh, jgh, jgh, jgh, jgh, (100, [], (jenc (jlg 0))), jgh, jgh, jgh, jgh, jgh, (101, [], [0, 0, 0, 0, 0, 0]), (101, [], [(-1), 0, 0, 0, 0, 0]), (100, [], (jenc 0)), (100, [], (jenc (-1))), (100, [], (jenc ((-1) * (jlg 0)))), (100, [], [0, 0, 0, 0, 0, 0, 1]), (101, [], [0, 0, 0, 0, 0, 0])]
theorem jA_243_401 {xs : List Int} {d : Nat} {x2 : Int} (h_x2 : 0 ≤ x2 ∧ x2 ≤ 7) : jT xs (d + 7) 243 30 0 [(0, (4, 0)), (1, (0, 3)), (2, (0, x2)), (3, (0, 1))] [] jpA_1632 7 193 (fun k v hsN => k = 0 ∧ v = (0, 1) ∧ hsN = jpA_1675) := by
  refine jT_xaload_n (v := (4, 0)) (pcN := 1) jI_243_0 rfl rfl rfl ?_
  refine jT_xiload_n (v := (0, 3)) (pcN := 2) jI_243_1 rfl rfl rfl ?_
  refine jT_fR [] 30 (y := 238) (pcN := 5) (dC := 1) (bc1 := 0) (bc2 := 0) (c1 := 7) (c2 := 193) (as := [(0, 3)]) (asC := [(0, 3)]) (LN := [(0, (4, 0)), (1, (0, 3)), (2, (0, x2)), (3, (0, 1))]) (stN := [(4, 0)]) (hsC := []) (v := (0, 1)) (st2 := [(0, 1), (4, 0)]) (jA_238_393 (d := 0)) (by rfl) (by rfl) (by decide +kernel) (by rfl) (by rfl) (by omega) (by omega) (by omega) (by omega) rfl ?_
  refine jT_xifF (t := 19) (pcN := 8) jI_243_5 rfl (by decide +kernel) rfl rfl ?_
  refine jT_xiload_n (v := (0, x2)) (pcN := 9) jI_243_8 rfl rfl rfl ?_
  refine jT_fR [] 30 (y := 188) (pcN := 12) (dC := 1) (bc1 := 0) (bc2 := 0) (c1 := 7) (c2 := 193) (as := [(0, x2)]) (asC := [(0, x2)]) (LN := [(0, (4, 0)), (1, (0, 3)), (2, (0, x2)), (3, (0, 1))]) (stN := [(4, 0)]) (hsC := []) (v := (0, 1)) (st2 := [(0, 1), (4, 0)]) (jA_188_20 (d := 0) (by omega)) (by rfl) (by rfl) (by decide +kernel) (by rfl) (by rfl) (by omega) (by omega) (by omega) (by omega) rfl ?_
  refine jT_xifF (t := 19) (pcN := 15) jI_243_12 rfl (by decide +kernel) rfl rfl ?_
  refine jT_xiconst (k := 1) (pcN := 16) jI_243_15 rfl ?_
  refine jT_xgoto (pcN := 20) jI_243_16 rfl ?_
  refine jT_fR [0, 1, 2, 3, 4, 5, 6, 7, 8, 9, 10, 11, 12, 13, 14, 15] 30 (y := 190) (pcN := 23) (dC := 1) (bc1 := 0) (bc2 := 0) (c1 := 7) (c2 := 193) (as := [(4, 0), (0, 1)]) (asC := [(4, 0), (0, 1)]) (LN := [(0, (4, 0)), (1, (0, 3)), (2, (0, x2)), (3, (0, 1))]) (stN := []) (hsC := jpA_22) (v := (0, 0)) (st2 := [(0, 0)]) (jA_190_39 (d := 0)) (by rfl) (by rfl) (by decide +kernel) (by rfl) (by rfl) (by omega) (by omega) (by omega) (by omega) rfl ?_
  refine jT_xifT (pcN := 28) jI_243_23 rfl (by decide +kernel) rfl ?_
  refine jT_xaload_n (v := (4, 0)) (pcN := 29) jI_243_28 rfl rfl rfl ?_
  refine jT_xiload_n (v := (0, x2)) (pcN := 30) jI_243_29 rfl rfl rfl ?_
  refine jT_fR [0, 1, 2, 3, 4, 5, 6, 7, 8, 9, 10, 11, 12, 13, 14, 15] 30 (y := 202) (pcN := 33) (dC := 1) (bc1 := 0) (bc2 := 0) (c1 := 7) (c2 := 193) (as := [(4, 0), (0, x2)]) (asC := [(4, 0), (0, x2)]) (LN := [(0, (4, 0)), (1, (0, 3)), (2, (0, x2)), (3, (0, 1))]) (stN := []) (hsC := jpA_130) (v := (9, 0)) (st2 := []) (jA_202_41 (d := 0) (by omega)) (by rfl) (by rfl) (by decide +kernel) (by rfl) (by rfl) (by omega) (by omega) (by omega) (by omega) rfl ?_
  refine jT_xaload_n (v := (4, 0)) (pcN := 34) jI_243_33 rfl rfl rfl ?_
  refine jT_fA [0, 1, 2, 3, 4, 5, 6, 7, 8, 9, 10, 11, 12, 13, 14, 15, 24, 25, 26, 27, 28, 29] 30 (y := 209) (pcN := 37) (dC := 6) (bc1 := 5) (bc2 := 180) (c1 := 2) (c2 := 13) (as := [(4, 0)]) (asC := [(4, 0)]) (LN := [(0, (4, 0)), (1, (0, 3)), (2, (0, x2)), (3, (0, 1))]) (stN := []) (hsC := jpA_684) (ex := jpA_683) (v := (1, 0)) (st2 := [(1, 0)]) (hs2 := jpA_1568) (jA_209_159 (d := 0)) (by rfl) (by rfl) (by decide +kernel) (by rfl) (by rfl) (by omega) (by omega) (by omega) (by omega) rfl (by decide +kernel) ?_
  refine jT_xlstore (v := (1, 0)) (LN := [(4, (1, 0)), (0, (4, 0)), (1, (0, 3)), (2, (0, x2)), (3, (0, 1))]) (pcN := 39) jI_243_37 rfl rfl rfl rfl ?_
  refine jT_xaload_n (v := (4, 0)) (pcN := 40) jI_243_39 rfl rfl rfl ?_
  refine jT_xiload_n (v := (0, 3)) (pcN := 41) jI_243_40 rfl rfl rfl ?_
  refine jT_fR [0, 1, 2, 3, 4, 5, 6, 7, 8, 9, 10, 11, 12, 13, 14, 15] 35 (y := 244) (pcN := 44) (dC := 1) (bc1 := 0) (bc2 := 0) (c1 := 2) (c2 := 13) (as := [(4, 0), (0, 3)]) (asC := [(4, 0), (0, 3)]) (LN := [(4, (1, 0)), (0, (4, 0)), (1, (0, 3)), (2, (0, x2)), (3, (0, 1))]) (stN := []) (hsC := jpA_130) (v := (0, 1)) (st2 := [(0, 1)]) (jA_244_397 (d := 0)) (by rfl) (by rfl) (by decide +kernel) (by rfl) (by rfl) (by omega) (by omega) (by omega) (by omega) rfl ?_
  refine jT_xistore (v := (0, 1)) (LN := [(6, (0, 1)), (4, (1, 0)), (0, (4, 0)), (1, (0, 3)), (2, (0, x2)), (3, (0, 1))]) (pcN := 46) jI_243_44 rfl rfl rfl rfl ?_
  refine jT_xiload_n (v := (0, 1)) (pcN := 47) jI_243_46 rfl rfl rfl ?_
  refine jT_xifF (t := 73) (pcN := 50) jI_243_47 rfl (by decide +kernel) rfl rfl ?_
  refine jT_xiload (v := (0, 1)) (pcN := 52) jI_243_50 rfl rfl rfl ?_
  refine jT_xifT (pcN := 65) jI_243_52 rfl (by decide +kernel) rfl ?_
  refine jT_xiconst (k := 1) (pcN := 66) jI_243_65 rfl ?_
  refine jT_xgoto (pcN := 92) jI_243_66 rfl ?_
  refine jT_xistore (v := (0, 1)) (LN := [(7, (0, 1)), (6, (0, 1)), (4, (1, 0)), (0, (4, 0)), (1, (0, 3)), (2, (0, x2)), (3, (0, 1))]) (pcN := 94) jI_243_92 rfl rfl rfl rfl ?_
  refine jT_xaload_n (v := (4, 0)) (pcN := 95) jI_243_94 rfl rfl rfl ?_
  refine jT_xiload (v := (0, 1)) (pcN := 97) jI_243_95 rfl rfl rfl ?_
  refine jT_xiconst (k := 2) (pcN := 98) jI_243_97 rfl ?_
  refine jT_fR [0] 35 (y := 191) (pcN := 101) (dC := 0) (bc1 := 0) (bc2 := 0) (c1 := 2) (c2 := 13) (as := [(4, 0), (0, 1), (0, 2)]) (asC := [(4, 0), (0, 1), (0, 2)]) (LN := [(7, (0, 1)), (6, (0, 1)), (4, (1, 0)), (0, (4, 0)), (1, (0, 3)), (2, (0, x2)), (3, (0, 1))]) (stN := []) (hsC := [jgh]) (v := (0, 0)) (st2 := [(0, 0)]) (jA_191_49 (d := 0)) (by rfl) (by rfl) (by decide +kernel) (by rfl) (by rfl) (by omega) (by omega) (by omega) (by omega) rfl ?_
  refine jT_xifF (t := 137) (pcN := 104) jI_243_101 rfl (by decide +kernel) rfl rfl ?_
  refine jT_xaload_n (v := (4, 0)) (pcN := 105) jI_243_104 rfl rfl rfl ?_
  refine jT_xiload_n (v := (0, 1)) (pcN := 106) jI_243_105 rfl rfl rfl ?_
  refine jT_xifF (t := 125) (pcN := 109) jI_243_106 rfl (by decide +kernel) rfl rfl ?_
  refine jT_xaload_n (v := (4, 0)) (pcN := 110) jI_243_109 rfl rfl rfl ?_
  refine jT_fR [0, 1, 2, 3, 4, 5, 6, 7, 8, 9, 10, 11, 12, 13, 14, 15] 35 (y := 205) (pcN := 113) (dC := 1) (bc1 := 0) (bc2 := 0) (c1 := 2) (c2 := 13) (as := [(4, 0)]) (asC := [(4, 0)]) (LN := [(7, (0, 1)), (6, (0, 1)), (4, (1, 0)), (0, (4, 0)), (1, (0, 3)), (2, (0, x2)), (3, (0, 1))]) (stN := [(4, 0)]) (hsC := jpA_147) (v := (0, 1)) (st2 := [(0, 1), (4, 0)]) (jA_205_48 (d := 0)) (by rfl) (by rfl) (by decide +kernel) (by rfl) (by rfl) (by omega) (by omega) (by omega) (by omega) rfl ?_
  refine jT_xifF (t := 129) (pcN := 116) jI_243_113 rfl (by decide +kernel) rfl rfl ?_
  refine jT_xlload (v := (1, 0)) (pcN := 118) jI_243_116 rfl rfl rfl ?_
  refine jT_adv 1 (pcN := 121) (LN := [(7, (0, 1)), (6, (0, 1)), (4, (1, 0)), (0, (4, 0)), (1, (0, 3)), (2, (0, x2)), (3, (0, 1))]) (stN := [(1, (-2147483648)), (1, 0), (4, 0)]) (hsN := jpA_1568) (c1 := 0) (s1 := 0) (c2 := 2) (s2 := 13) (by exact rfl) ?_ (by omega) (by omega)
  refine jT_lcmp (a := 0) (b := (-2147483648)) (z := 1) (by rfl) (by rfl) (by decide +kernel) (by decide +kernel) (by decide) ?_
  refine jT_xifF (t := 129) (pcN := 125) jI_243_122 rfl (by decide +kernel) rfl rfl ?_
  refine jT_xiconst (k := 1) (pcN := 126) jI_243_125 rfl ?_
  refine jT_xgoto (pcN := 130) jI_243_126 rfl ?_
  refine jT_xiconst (k := 3) (pcN := 131) jI_243_130 rfl ?_
  refine jT_fR [0] 35 (y := 191) (pcN := 134) (dC := 0) (bc1 := 0) (bc2 := 0) (c1 := 2) (c2 := 13) (as := [(4, 0), (0, 1), (0, 3)]) (asC := [(4, 0), (0, 1), (0, 3)]) (LN := [(7, (0, 1)), (6, (0, 1)), (4, (1, 0)), (0, (4, 0)), (1, (0, 3)), (2, (0, x2)), (3, (0, 1))]) (stN := []) (hsC := [jgh]) (v := (0, 0)) (st2 := [(0, 0)]) (jA_191_117 (d := 0)) (by rfl) (by rfl) (by decide +kernel) (by rfl) (by rfl) (by omega) (by omega) (by omega) (by omega) rfl ?_
  refine jT_xifT (pcN := 139) jI_243_134 rfl (by decide +kernel) rfl ?_
  refine jT_xbipush (k := 7) (pcN := 141) jI_243_139 (by decide) rfl ?_
  refine jT_adv 1 (pcN := 143) (LN := [(7, (0, 1)), (6, (0, 1)), (4, (1, 0)), (0, (4, 0)), (1, (0, 3)), (2, (0, x2)), (3, (0, 1))]) (stN := [(4, 35)]) (hsN := jpA_1596) (c1 := 1) (s1 := 7) (c2 := 1) (s2 := 6) (by exact rfl) ?_ (by omega) (by omega)
  refine jT_xastore (v := (4, 35)) (LN := [(8, (4, 35)), (7, (0, 1)), (6, (0, 1)), (4, (1, 0)), (0, (4, 0)), (1, (0, 3)), (2, (0, x2)), (3, (0, 1))]) (pcN := 145) jI_243_143 rfl rfl rfl rfl ?_
  refine jT_xaload_n (v := (4, 0)) (pcN := 146) jI_243_145 rfl rfl rfl ?_
  refine jT_xaload (v := (4, 35)) (pcN := 148) jI_243_146 rfl rfl rfl ?_
  refine jT_xiconst (k := 0) (pcN := 149) jI_243_148 rfl ?_
  refine jT_fB [0, 35, 1, 2, 3, 4, 5, 6, 7, 8, 9, 10, 11, 12, 13, 14, 15] 36 (y := 197) (pcN := 152) (dC := 0) (bc1 := 0) (bc2 := 0) (c1 := 1) (c2 := 6) (as := [(4, 0), (4, 35), (0, 0)]) (asC := [(4, 0), (4, 1), (0, 0)]) (LN := [(8, (4, 35)), (7, (0, 1)), (6, (0, 1)), (4, (1, 0)), (0, (4, 0)), (1, (0, 3)), (2, (0, x2)), (3, (0, 1))]) (stN := []) (hsC := jpA_1524) (hsD := jpA_1523) (v := (9, 0)) (st2 := []) (hs2 := jpA_1601) (jA_197_343 (d := 0)) (by rfl) (by rfl) (by decide +kernel) (by rfl) (by rfl) (by omega) (by omega) (by omega) (by omega) rfl (by decide +kernel) ?_
  refine jT_xaload_n (v := (4, 0)) (pcN := 153) jI_243_152 rfl rfl rfl ?_
  refine jT_xiconst (k := 0) (pcN := 154) jI_243_153 rfl ?_
  refine jT_adv 1 (pcN := 157) (LN := [(8, (4, 35)), (7, (0, 1)), (6, (0, 1)), (4, (1, 0)), (0, (4, 0)), (1, (0, 3)), (2, (0, x2)), (3, (0, 1))]) (stN := []) (hsN := jpA_1601) (c1 := 0) (s1 := 0) (c2 := 1) (s2 := 6) (by exact rfl) ?_ (by omega) (by omega)
  refine jT_xiconst (k := 0) (pcN := 158) jI_243_157 rfl ?_
  refine jT_xistore (v := (0, 0)) (LN := [(9, (0, 0)), (8, (4, 35)), (7, (0, 1)), (6, (0, 1)), (4, (1, 0)), (0, (4, 0)), (1, (0, 3)), (2, (0, x2)), (3, (0, 1))]) (pcN := 160) jI_243_158 rfl rfl rfl rfl ?_
  refine jT_xiload (v := (0, 0)) (pcN := 162) jI_243_160 rfl rfl rfl ?_
  refine jT_xaload_n (v := (4, 0)) (pcN := 163) jI_243_162 rfl rfl rfl ?_
  refine jT_xiload_n (v := (0, 3)) (pcN := 164) jI_243_163 rfl rfl rfl ?_
  refine jT_fR [0, 1, 2, 3, 4, 5, 6, 7, 8, 9, 10, 11, 12, 13, 14, 15] 36 (y := 245) (pcN := 167) (dC := 0) (bc1 := 0) (bc2 := 0) (c1 := 1) (c2 := 6) (as := [(4, 0), (0, 3)]) (asC := [(4, 0), (0, 3)]) (LN := [(9, (0, 0)), (8, (4, 35)), (7, (0, 1)), (6, (0, 1)), (4, (1, 0)), (0, (4, 0)), (1, (0, 3)), (2, (0, x2)), (3, (0, 1))]) (stN := [(0, 0)]) (hsC := jpA_1519) (v := (0, 1)) (st2 := [(0, 1), (0, 0)]) (jA_245_394 (d := 0)) (by rfl) (by rfl) (by decide +kernel) (by rfl) (by rfl) (by omega) (by omega) (by omega) (by omega) rfl ?_
  refine jT_xicF (t := 208) (pcN := 170) jI_243_167 rfl (by decide +kernel) rfl rfl ?_
  refine jT_xaload_n (v := (4, 0)) (pcN := 171) jI_243_170 rfl rfl rfl ?_
  refine jT_xaload_n (v := (4, 0)) (pcN := 172) jI_243_171 rfl rfl rfl ?_
  refine jT_xgetf (a := 0) (t := 1) (ci := 14) (fi := 1) (c := jzA_21) (v := (4, 1)) (pcN := 175) jI_243_172 rfl rfl rfl rfl rfl rfl rfl ?_
  refine jT_xiload_n (v := (0, 3)) (pcN := 176) jI_243_175 rfl rfl rfl ?_
  refine jT_xiload (v := (0, 0)) (pcN := 178) jI_243_176 rfl rfl rfl ?_
  refine jT_fR [] 36 (y := 242) (pcN := 181) (dC := 0) (bc1 := 0) (bc2 := 0) (c1 := 1) (c2 := 6) (as := [(0, 3), (0, 0)]) (asC := [(0, 3), (0, 0)]) (LN := [(9, (0, 0)), (8, (4, 35)), (7, (0, 1)), (6, (0, 1)), (4, (1, 0)), (0, (4, 0)), (1, (0, 3)), (2, (0, x2)), (3, (0, 1))]) (stN := [(4, 1), (4, 0)]) (hsC := []) (v := (0, 900)) (st2 := [(0, 900), (4, 1), (4, 0)]) (jA_242_395 (d := 0)) (by rfl) (by rfl) (by decide +kernel) (by rfl) (by rfl) (by omega) (by omega) (by omega) (by omega) rfl ?_
  refine jT_fR [0, 1, 2, 3, 4, 5, 6, 7, 8, 9, 10, 11, 12, 13, 14, 15] 36 (y := 203) (pcN := 184) (dC := 0) (bc1 := 0) (bc2 := 0) (c1 := 1) (c2 := 6) (as := [(4, 0), (4, 1), (0, 900)]) (asC := [(4, 0), (4, 1), (0, 900)]) (LN := [(9, (0, 0)), (8, (4, 35)), (7, (0, 1)), (6, (0, 1)), (4, (1, 0)), (0, (4, 0)), (1, (0, 3)), (2, (0, x2)), (3, (0, 1))]) (stN := []) (hsC := jpA_130) (v := (9, 0)) (st2 := []) (jA_203_398 (d := 0)) (by rfl) (by rfl) (by decide +kernel) (by rfl) (by rfl) (by omega) (by omega) (by omega) (by omega) rfl ?_
  refine jT_xiload_n (v := (0, 1)) (pcN := 185) jI_243_184 rfl rfl rfl ?_
  refine jT_xifT (pcN := 198) jI_243_185 rfl (by decide +kernel) rfl ?_
  refine jT_xaload_n (v := (4, 0)) (pcN := 199) jI_243_198 rfl rfl rfl ?_
  refine jT_fB [0, 1, 2, 3, 4, 5, 6, 7, 8, 9, 10, 11, 12, 13, 14, 15] 36 (y := 239) (pcN := 202) (dC := 1) (bc1 := 0) (bc2 := 0) (c1 := 1) (c2 := 6) (as := [(4, 0)]) (asC := [(4, 0)]) (LN := [(9, (0, 0)), (8, (4, 35)), (7, (0, 1)), (6, (0, 1)), (4, (1, 0)), (0, (4, 0)), (1, (0, 3)), (2, (0, x2)), (3, (0, 1))]) (stN := []) (hsC := jpA_1541) (hsD := jpA_1544) (v := (9, 0)) (st2 := []) (hs2 := jpA_1618) (jA_239_346 (d := 0)) (by rfl) (by rfl) (by decide +kernel) (by rfl) (by rfl) (by omega) (by omega) (by omega) (by omega) rfl (by decide +kernel) ?_
  refine jT_xiinc (x := 0) (z := 1) (LN := [(9, (0, 1)), (8, (4, 35)), (7, (0, 1)), (6, (0, 1)), (4, (1, 0)), (0, (4, 0)), (1, (0, 3)), (2, (0, x2)), (3, (0, 1))]) (pcN := 205) jI_243_202 rfl rfl (by decide) rfl rfl ?_
  refine jT_xgoto (pcN := 160) jI_243_205 rfl ?_
  refine jT_xiload (v := (0, 1)) (pcN := 162) jI_243_160 rfl rfl rfl ?_
  refine jT_xaload_n (v := (4, 0)) (pcN := 163) jI_243_162 rfl rfl rfl ?_
  refine jT_xiload_n (v := (0, 3)) (pcN := 164) jI_243_163 rfl rfl rfl ?_
  refine jT_fR [0, 1, 2, 3, 4, 5, 6, 7, 8, 9, 10, 11, 12, 13, 14, 15] 36 (y := 245) (pcN := 167) (dC := 0) (bc1 := 0) (bc2 := 0) (c1 := 1) (c2 := 6) (as := [(4, 0), (0, 3)]) (asC := [(4, 0), (0, 3)]) (LN := [(9, (0, 1)), (8, (4, 35)), (7, (0, 1)), (6, (0, 1)), (4, (1, 0)), (0, (4, 0)), (1, (0, 3)), (2, (0, x2)), (3, (0, 1))]) (stN := [(0, 1)]) (hsC := jpA_1545) (v := (0, 1)) (st2 := [(0, 1), (0, 1)]) (jA_245_399 (d := 0)) (by rfl) (by rfl) (by decide +kernel) (by rfl) (by rfl) (by omega) (by omega) (by omega) (by omega) rfl ?_
  refine jT_xicT (pcN := 208) jI_243_167 rfl (by decide +kernel) rfl ?_
  refine jT_xaload_n (v := (4, 0)) (pcN := 209) jI_243_208 rfl rfl rfl ?_
  refine jT_xaload (v := (4, 35)) (pcN := 211) jI_243_209 rfl rfl rfl ?_
  refine jT_xiconst (k := 0) (pcN := 212) jI_243_211 rfl ?_
  refine jT_fR [0, 35, 1, 2, 3, 4, 5, 6, 7, 8, 9, 10, 11, 12, 13, 14, 15] 36 (y := 203) (pcN := 215) (dC := 0) (bc1 := 0) (bc2 := 0) (c1 := 1) (c2 := 6) (as := [(4, 0), (4, 35), (0, 0)]) (asC := [(4, 0), (4, 1), (0, 0)]) (LN := [(9, (0, 1)), (8, (4, 35)), (7, (0, 1)), (6, (0, 1)), (4, (1, 0)), (0, (4, 0)), (1, (0, 3)), (2, (0, x2)), (3, (0, 1))]) (stN := []) (hsC := jpA_1547) (v := (9, 0)) (st2 := []) (jA_203_348 (d := 0)) (by rfl) (by rfl) (by decide +kernel) (by rfl) (by rfl) (by omega) (by omega) (by omega) (by omega) rfl ?_
  refine jT_xiload_n (v := (0, 1)) (pcN := 216) jI_243_215 rfl rfl rfl ?_
  refine jT_xifF (t := 223) (pcN := 219) jI_243_216 rfl (by decide +kernel) rfl rfl ?_
  refine jT_xaload_n (v := (4, 0)) (pcN := 220) jI_243_219 rfl rfl rfl ?_
  refine jT_fA [0, 1, 2, 3, 4, 5, 6, 7, 8, 9, 10, 11, 12, 13, 14, 15] 36 (y := 239) (pcN := 223) (dC := 3) (bc1 := 1) (bc2 := 6) (c1 := 0) (c2 := 0) (as := [(4, 0)]) (asC := [(4, 0)]) (LN := [(9, (0, 1)), (8, (4, 35)), (7, (0, 1)), (6, (0, 1)), (4, (1, 0)), (0, (4, 0)), (1, (0, 3)), (2, (0, x2)), (3, (0, 1))]) (stN := []) (hsC := jpA_1544) (ex := [(101, [], [0, 0, 0, 0, 0, 0])]) (v := (9, 0)) (st2 := []) (hs2 := jpA_1627) (jA_239_351 (d := 0)) (by rfl) (by rfl) (by decide +kernel) (by rfl) (by rfl) (by omega) (by omega) (by omega) (by omega) rfl (by decide +kernel) ?_
  refine jT_xaload_n (v := (4, 0)) (pcN := 224) jI_243_223 rfl rfl rfl ?_
  refine jT_xiload_n (v := (0, 3)) (pcN := 225) jI_243_224 rfl rfl rfl ?_
  refine jT_fB [0, 1, 2, 3, 4, 5, 6, 7, 8, 9, 10, 11, 12, 13, 14, 15, 16, 17, 18, 19, 20, 21, 22, 23] 37 (y := 241) (pcN := 228) (dC := 1) (bc1 := 0) (bc2 := 0) (c1 := 0) (c2 := 0) (as := [(4, 0), (0, 3)]) (asC := [(4, 0), (0, 3)]) (LN := [(9, (0, 1)), (8, (4, 35)), (7, (0, 1)), (6, (0, 1)), (4, (1, 0)), (0, (4, 0)), (1, (0, 3)), (2, (0, x2)), (3, (0, 1))]) (stN := []) (hsC := jpA_1558) (hsD := jpA_1674) (v := (0, 1)) (st2 := [(0, 1)]) (hs2 := jpA_1675) (jA_241_400 (d := 0)) (by rfl) (by rfl) (by decide +kernel) (by rfl) (by rfl) (by omega) (by omega) (by omega) (by omega) rfl (by decide +kernel) ?_
  refine jT_adv 1 (pcN := 229) (LN := [(9, (0, 1)), (8, (4, 35)), (7, (0, 1)), (6, (0, 1)), (4, (1, 0)), (0, (4, 0)), (1, (0, 3)), (2, (0, x2)), (3, (0, 1))]) (stN := []) (hsN := jpA_1675) (c1 := 0) (s1 := 0) (c2 := 0) (s2 := 0) (by exact rfl) ?_ (by omega) (by omega)
  refine jT_xiload (v := (0, 1)) (pcN := 231) jI_243_229 rfl rfl rfl ?_
  exact jT_ret rfl (by decide) (by show 30 ≤ 37; decide) (by omega) (by omega) ⟨rfl, rfl, rfl⟩
theorem jA_128_402 {xs : List Int} {d : Nat} {x1 x2 : Int} (h_x1 : 0 ≤ x1 ∧ x1 ≤ 3) (h_x2 : 8 ≤ x2 ∧ x2 ≤ 2147483647) : jT xs (d + 1) 128 12 0 [(0, (4, 0)), (1, (0, x1)), (2, (0, x2)), (3, (0, 1))] [] jpA_6 1 6 (fun k v hsN => k = 1 ∧ v = (0, 0) ∧ hsN = jpA_6 ++ []) := by
  refine jT_xaload_n (v := (4, 0)) (pcN := 1) jI_128_0 rfl rfl rfl ?_
  refine jT_xiload_n (v := (0, x1)) (pcN := 2) jI_128_1 rfl rfl rfl ?_
  refine jT_xiconst (k := 4) (pcN := 3) jI_128_2 rfl ?_
  refine jT_fR [0] 12 (y := 115) (pcN := 6) (dC := 0) (bc1 := 0) (bc2 := 0) (c1 := 1) (c2 := 6) (as := [(4, 0), (0, x1), (0, 4)]) (asC := [(4, 0), (0, x1), (0, 4)]) (LN := [(0, (4, 0)), (1, (0, x1)), (2, (0, x2)), (3, (0, 1))]) (stN := []) (hsC := [jgh]) (v := (9, 0)) (st2 := []) (jA_115_315 (d := 0) (by omega)) (by rfl) (by rfl) (by decide +kernel) (by rfl) (by rfl) (by omega) (by omega) (by omega) (by omega) rfl ?_
  refine jT_xaload_n (v := (4, 0)) (pcN := 7) jI_128_6 rfl rfl rfl ?_
  refine jT_xiload_n (v := (0, x2)) (pcN := 8) jI_128_7 rfl rfl rfl ?_
  refine jT_xbipush (k := 8) (pcN := 10) jI_128_8 (by decide) rfl ?_
  exact jT_fX [0] 12 (y := 115) (pcN := 13) (dC := 0) (bc1 := 1) (bc2 := 6) (as := [(4, 0), (0, x2), (0, 8)]) (asC := [(4, 0), (0, x2), (0, 8)]) (LN := [(0, (4, 0)), (1, (0, x1)), (2, (0, x2)), (3, (0, 1))]) (stN := []) (hsC := [jgh]) (e := 0) (jA_115_60 (d := 0) (by omega)) (by rfl) (by rfl) (by decide +kernel) (by rfl) (by rfl) (by omega) (by omega) (by omega) (by omega) ⟨rfl, ⟨rfl, rfl, rfl⟩⟩
theorem jA_336_403 {xs : List Int} {d : Nat} {x1 x2 : Int} (h_x1 : 0 ≤ x1 ∧ x1 ≤ 3) (h_x2 : 8 ≤ x2 ∧ x2 ≤ 2147483647) : jT xs (d + 2) 336 13 0 [(0, (4, 0)), (1, (0, x1)), (2, (0, x2)), (3, (0, 1)), (4, (4, 1))] [] jpA_15 1 6 (fun k v hsN => k = 0 ∧ v = (0, 1) ∧ hsN = jpA_15 ++ []) := by
  refine jT_xaload (v := (4, 1)) (pcN := 2) jI_336_0 rfl rfl rfl ?_
  refine jT_xiconst (k := 0) (pcN := 3) jI_336_2 rfl ?_
  refine jT_xaload_n (v := (4, 0)) (pcN := 4) jI_336_3 rfl rfl rfl ?_
  refine jT_xiload_n (v := (0, x1)) (pcN := 5) jI_336_4 rfl rfl rfl ?_
  refine jT_xiload_n (v := (0, x2)) (pcN := 6) jI_336_5 rfl rfl rfl ?_
  refine jT_xiload_n (v := (0, 1)) (pcN := 7) jI_336_6 rfl rfl rfl ?_
  exact jT_fX [0, 2, 3, 4, 5, 6, 7, 8, 9, 10, 11, 12] 13 (y := 128) (pcN := 10) (dC := 1) (bc1 := 1) (bc2 := 6) (as := [(4, 0), (0, x1), (0, x2), (0, 1)]) (asC := [(4, 0), (0, x1), (0, x2), (0, 1)]) (LN := [(0, (4, 0)), (1, (0, x1)), (2, (0, x2)), (3, (0, 1)), (4, (4, 1))]) (stN := [(0, 0), (4, 1)]) (hsC := jpA_6) (e := 0) (jA_128_402 (d := 0) (by omega) (by omega)) (by rfl) (by rfl) (by decide +kernel) (by rfl) (by rfl) (by omega) (by omega) (by omega) (by omega) (show _ from ⟨rfl, rfl, rfl⟩)
theorem jA_243_404 {xs : List Int} {d : Nat} {x1 x2 : Int} (h_x1 : 0 ≤ x1 ∧ x1 ≤ 3) (h_x2 : 8 ≤ x2 ∧ x2 ≤ 2147483647) : jT xs (d + 2) 243 16 0 [(0, (4, 0)), (1, (0, x1)), (2, (0, x2)), (3, (0, 1))] [] jpA_22 0 0 (fun k v hsN => k = 0 ∧ v = (0, 0) ∧ hsN = jpA_20) := by
  refine jT_xaload_n (v := (4, 0)) (pcN := 1) jI_243_0 rfl rfl rfl ?_
  refine jT_xiload_n (v := (0, x1)) (pcN := 2) jI_243_1 rfl rfl rfl ?_
  refine jT_fR [] 16 (y := 238) (pcN := 5) (dC := 1) (bc1 := 0) (bc2 := 0) (c1 := 0) (c2 := 0) (as := [(0, x1)]) (asC := [(0, x1)]) (LN := [(0, (4, 0)), (1, (0, x1)), (2, (0, x2)), (3, (0, 1))]) (stN := [(4, 0)]) (hsC := []) (v := (0, 1)) (st2 := [(0, 1), (4, 0)]) (jA_238_318 (d := 0) (by omega)) (by rfl) (by rfl) (by decide +kernel) (by rfl) (by rfl) (by omega) (by omega) (by omega) (by omega) rfl ?_
  refine jT_xifF (t := 19) (pcN := 8) jI_243_5 rfl (by decide +kernel) rfl rfl ?_
  refine jT_xiload_n (v := (0, x2)) (pcN := 9) jI_243_8 rfl rfl rfl ?_
  refine jT_fR [] 16 (y := 188) (pcN := 12) (dC := 1) (bc1 := 0) (bc2 := 0) (c1 := 0) (c2 := 0) (as := [(0, x2)]) (asC := [(0, x2)]) (LN := [(0, (4, 0)), (1, (0, x1)), (2, (0, x2)), (3, (0, 1))]) (stN := [(4, 0)]) (hsC := []) (v := (0, 0)) (st2 := [(0, 0), (4, 0)]) (jA_188_63 (d := 0) (by omega)) (by rfl) (by rfl) (by decide +kernel) (by rfl) (by rfl) (by omega) (by omega) (by omega) (by omega) rfl ?_
  refine jT_xifT (pcN := 19) jI_243_12 rfl (by decide +kernel) rfl ?_
  refine jT_xiconst (k := 0) (pcN := 20) jI_243_19 rfl ?_
  refine jT_fB [0, 1, 2, 3, 4, 5, 6, 7, 8, 9, 10, 11, 12, 13, 14, 15] 16 (y := 190) (pcN := 23) (dC := 1) (bc1 := 0) (bc2 := 0) (c1 := 0) (c2 := 0) (as := [(4, 0), (0, 0)]) (asC := [(4, 0), (0, 0)]) (LN := [(0, (4, 0)), (1, (0, x1)), (2, (0, x2)), (3, (0, 1))]) (stN := []) (hsC := jpA_22) (hsD := jpA_20) (v := (0, 1)) (st2 := [(0, 1)]) (hs2 := jpA_20) (jA_190_6 (d := 0)) (by rfl) (by rfl) (by decide +kernel) (by rfl) (by rfl) (by omega) (by omega) (by omega) (by omega) rfl (by decide +kernel) ?_
  refine jT_xifF (t := 28) (pcN := 26) jI_243_23 rfl (by decide +kernel) rfl rfl ?_
  refine jT_xiconst (k := 0) (pcN := 27) jI_243_26 rfl ?_
  exact jT_ret rfl (by decide) (by show 16 ≤ 16; decide) (by omega) (by omega) ⟨rfl, rfl, rfl⟩
theorem jA_115_405 {xs : List Int} {d : Nat} {x1 : Int} (h_x1 : 4 ≤ x1 ∧ x1 ≤ 2147483647) : jT xs d 115 1 0 [(0, (4, 0)), (1, (0, x1)), (2, (0, 4))] [] [jgh] 1 6 (fun k v hsN => k = 1 ∧ v = (0, 0) ∧ hsN = [jgh] ++ []) := by
  refine jT_xiload_n (v := (0, x1)) (pcN := 1) jI_115_0 rfl rfl rfl ?_
  refine jT_ifF (a := x1) (t := 9) (by rfl) (by rfl) (by rfl) (jw_idd (by omega) (by omega)) (by simp only [jcP] <;> omega) ?_
  refine jT_xiload_n (v := (0, x1)) (pcN := 5) jI_115_4 rfl rfl rfl ?_
  refine jT_xiload_n (v := (0, 4)) (pcN := 6) jI_115_5 rfl rfl rfl ?_
  refine jT_icF (a := x1) (b := 4) (t := 20) (by rfl) (by rfl) (by rfl) (jw_idd (by omega) (by omega)) (jw_idd (by omega) (by omega)) (by simp only [jcP] <;> omega) ?_
  exact jT_ret (c1 := 1) (s1 := 6) rfl (by decide) (by show 1 ≤ 1; decide) (by omega) (by omega) ⟨rfl, rfl, rfl⟩
theorem jA_128_406 {xs : List Int} {d : Nat} {x1 x2 : Int} (h_x1 : 4 ≤ x1 ∧ x1 ≤ 2147483647) (h_x2 : (-2147483648) ≤ x2 ∧ x2 ≤ 2147483647) : jT xs (d + 1) 128 12 0 [(0, (4, 0)), (1, (0, x1)), (2, (0, x2)), (3, (0, 1))] [] jpA_6 1 6 (fun k v hsN => k = 1 ∧ v = (0, 0) ∧ hsN = jpA_6 ++ []) := by
  refine jT_xaload_n (v := (4, 0)) (pcN := 1) jI_128_0 rfl rfl rfl ?_
  refine jT_xiload_n (v := (0, x1)) (pcN := 2) jI_128_1 rfl rfl rfl ?_
  refine jT_xiconst (k := 4) (pcN := 3) jI_128_2 rfl ?_
  exact jT_fX [0] 12 (y := 115) (pcN := 6) (dC := 0) (bc1 := 1) (bc2 := 6) (as := [(4, 0), (0, x1), (0, 4)]) (asC := [(4, 0), (0, x1), (0, 4)]) (LN := [(0, (4, 0)), (1, (0, x1)), (2, (0, x2)), (3, (0, 1))]) (stN := []) (hsC := [jgh]) (e := 0) (jA_115_405 (d := 0) (by omega)) (by rfl) (by rfl) (by decide +kernel) (by rfl) (by rfl) (by omega) (by omega) (by omega) (by omega) ⟨rfl, ⟨rfl, rfl, rfl⟩⟩
theorem jA_336_407 {xs : List Int} {d : Nat} {x1 x2 : Int} (h_x1 : 4 ≤ x1 ∧ x1 ≤ 2147483647) (h_x2 : (-2147483648) ≤ x2 ∧ x2 ≤ 2147483647) : jT xs (d + 2) 336 13 0 [(0, (4, 0)), (1, (0, x1)), (2, (0, x2)), (3, (0, 1)), (4, (4, 1))] [] jpA_15 1 6 (fun k v hsN => k = 0 ∧ v = (0, 1) ∧ hsN = jpA_15 ++ []) := by
  refine jT_xaload (v := (4, 1)) (pcN := 2) jI_336_0 rfl rfl rfl ?_
  refine jT_xiconst (k := 0) (pcN := 3) jI_336_2 rfl ?_
  refine jT_xaload_n (v := (4, 0)) (pcN := 4) jI_336_3 rfl rfl rfl ?_
  refine jT_xiload_n (v := (0, x1)) (pcN := 5) jI_336_4 rfl rfl rfl ?_
  refine jT_xiload_n (v := (0, x2)) (pcN := 6) jI_336_5 rfl rfl rfl ?_
  refine jT_xiload_n (v := (0, 1)) (pcN := 7) jI_336_6 rfl rfl rfl ?_
  exact jT_fX [0, 2, 3, 4, 5, 6, 7, 8, 9, 10, 11, 12] 13 (y := 128) (pcN := 10) (dC := 1) (bc1 := 1) (bc2 := 6) (as := [(4, 0), (0, x1), (0, x2), (0, 1)]) (asC := [(4, 0), (0, x1), (0, x2), (0, 1)]) (LN := [(0, (4, 0)), (1, (0, x1)), (2, (0, x2)), (3, (0, 1)), (4, (4, 1))]) (stN := [(0, 0), (4, 1)]) (hsC := jpA_6) (e := 0) (jA_128_406 (d := 0) (by omega) (by omega)) (by rfl) (by rfl) (by decide +kernel) (by rfl) (by rfl) (by omega) (by omega) (by omega) (by omega) (show _ from ⟨rfl, rfl, rfl⟩)
theorem jA_238_408 {xs : List Int} {d : Nat} {x1 : Int} (h_x1 : 4 ≤ x1 ∧ x1 ≤ 2147483647) : jT xs (d + 1) 238 0 0 [(0, (0, x1))] [] [] 0 0 (fun k v hsN => k = 0 ∧ v = (0, 0) ∧ hsN = [] ++ []) := by
  refine jT_xiload_n (v := (0, x1)) (pcN := 1) jI_238_0 rfl rfl rfl ?_
  refine jT_xi2l (x := x1) (z := x1) (pcN := 2) jI_238_1 rfl (jw_idd (by omega) (by omega)) rfl ?_
  refine jT_xlconst (z := 0) (pcN := 3) jI_238_2 rfl rfl ?_
  refine jT_adv 1 (pcN := 6) (LN := [(0, (0, x1))]) (stN := [(1, 3), (1, 0), (1, x1)]) (hsN := []) (c1 := 0) (s1 := 0) (c2 := 0) (s2 := 0) (by exact rfl) ?_ (by omega) (by omega)
  refine jT_fR [] 0 (y := 189) (pcN := 9) (dC := 0) (bc1 := 0) (bc2 := 0) (c1 := 0) (c2 := 0) (as := [(1, x1), (1, 0), (1, 3)]) (asC := [(1, x1), (1, 0), (1, 3)]) (LN := [(0, (0, x1))]) (stN := []) (hsC := []) (v := (0, 0)) (st2 := [(0, 0)]) (jT_in_hi (d := 0) (v := x1) (lo := 0) (hi := 3) (by omega) (by omega) (by omega) (by omega) (by omega)) (by rfl) (by rfl) (by decide +kernel) (by rfl) (by rfl) (by omega) (by omega) (by omega) (by omega) rfl ?_
  exact jT_ret rfl (by decide) (by show 0 ≤ 0; decide) (by omega) (by omega) ⟨rfl, rfl, rfl⟩
theorem jA_243_409 {xs : List Int} {d : Nat} {x1 x2 : Int} (h_x1 : 4 ≤ x1 ∧ x1 ≤ 2147483647) (h_x2 : (-2147483648) ≤ x2 ∧ x2 ≤ 2147483647) : jT xs (d + 2) 243 16 0 [(0, (4, 0)), (1, (0, x1)), (2, (0, x2)), (3, (0, 1))] [] jpA_22 0 0 (fun k v hsN => k = 0 ∧ v = (0, 0) ∧ hsN = jpA_20) := by
  refine jT_xaload_n (v := (4, 0)) (pcN := 1) jI_243_0 rfl rfl rfl ?_
  refine jT_xiload_n (v := (0, x1)) (pcN := 2) jI_243_1 rfl rfl rfl ?_
  refine jT_fR [] 16 (y := 238) (pcN := 5) (dC := 1) (bc1 := 0) (bc2 := 0) (c1 := 0) (c2 := 0) (as := [(0, x1)]) (asC := [(0, x1)]) (LN := [(0, (4, 0)), (1, (0, x1)), (2, (0, x2)), (3, (0, 1))]) (stN := [(4, 0)]) (hsC := []) (v := (0, 0)) (st2 := [(0, 0), (4, 0)]) (jA_238_408 (d := 0) (by omega)) (by rfl) (by rfl) (by decide +kernel) (by rfl) (by rfl) (by omega) (by omega) (by omega) (by omega) rfl ?_
  refine jT_xifT (pcN := 19) jI_243_5 rfl (by decide +kernel) rfl ?_
  refine jT_xiconst (k := 0) (pcN := 20) jI_243_19 rfl ?_
  refine jT_fB [0, 1, 2, 3, 4, 5, 6, 7, 8, 9, 10, 11, 12, 13, 14, 15] 16 (y := 190) (pcN := 23) (dC := 1) (bc1 := 0) (bc2 := 0) (c1 := 0) (c2 := 0) (as := [(4, 0), (0, 0)]) (asC := [(4, 0), (0, 0)]) (LN := [(0, (4, 0)), (1, (0, x1)), (2, (0, x2)), (3, (0, 1))]) (stN := []) (hsC := jpA_22) (hsD := jpA_20) (v := (0, 1)) (st2 := [(0, 1)]) (hs2 := jpA_20) (jA_190_6 (d := 0)) (by rfl) (by rfl) (by decide +kernel) (by rfl) (by rfl) (by omega) (by omega) (by omega) (by omega) rfl (by decide +kernel) ?_
  refine jT_xifF (t := 28) (pcN := 26) jI_243_23 rfl (by decide +kernel) rfl rfl ?_
  refine jT_xiconst (k := 0) (pcN := 27) jI_243_26 rfl ?_
  exact jT_ret rfl (by decide) (by show 16 ≤ 16; decide) (by omega) (by omega) ⟨rfl, rfl, rfl⟩
theorem jA_128_410 {xs : List Int} {d : Nat} {x1 x2 : Int} (h_x1 : (-2147483648) ≤ x1 ∧ x1 ≤ (-1)) (h_x2 : (-2147483648) ≤ x2 ∧ x2 ≤ 2147483647) : jT xs (d + 1) 128 12 0 [(0, (4, 0)), (1, (0, x1)), (2, (0, x2)), (3, (0, 0))] [] jpA_6 1 6 (fun k v hsN => k = 1 ∧ v = (0, 0) ∧ hsN = jpA_6 ++ []) := by
  refine jT_xaload_n (v := (4, 0)) (pcN := 1) jI_128_0 rfl rfl rfl ?_
  refine jT_xiload_n (v := (0, x1)) (pcN := 2) jI_128_1 rfl rfl rfl ?_
  refine jT_xiconst (k := 4) (pcN := 3) jI_128_2 rfl ?_
  exact jT_fX [0] 12 (y := 115) (pcN := 6) (dC := 0) (bc1 := 1) (bc2 := 6) (as := [(4, 0), (0, x1), (0, 4)]) (asC := [(4, 0), (0, x1), (0, 4)]) (LN := [(0, (4, 0)), (1, (0, x1)), (2, (0, x2)), (3, (0, 0))]) (stN := []) (hsC := [jgh]) (e := 0) (jA_115_310 (d := 0) (by omega)) (by rfl) (by rfl) (by decide +kernel) (by rfl) (by rfl) (by omega) (by omega) (by omega) (by omega) ⟨rfl, ⟨rfl, rfl, rfl⟩⟩
theorem jA_336_411 {xs : List Int} {d : Nat} {x1 x2 : Int} (h_x1 : (-2147483648) ≤ x1 ∧ x1 ≤ (-1)) (h_x2 : (-2147483648) ≤ x2 ∧ x2 ≤ 2147483647) : jT xs (d + 2) 336 13 0 [(0, (4, 0)), (1, (0, x1)), (2, (0, x2)), (3, (0, 0)), (4, (4, 1))] [] jpA_15 1 6 (fun k v hsN => k = 0 ∧ v = (0, 1) ∧ hsN = jpA_15 ++ []) := by
  refine jT_xaload (v := (4, 1)) (pcN := 2) jI_336_0 rfl rfl rfl ?_
  refine jT_xiconst (k := 0) (pcN := 3) jI_336_2 rfl ?_
  refine jT_xaload_n (v := (4, 0)) (pcN := 4) jI_336_3 rfl rfl rfl ?_
  refine jT_xiload_n (v := (0, x1)) (pcN := 5) jI_336_4 rfl rfl rfl ?_
  refine jT_xiload_n (v := (0, x2)) (pcN := 6) jI_336_5 rfl rfl rfl ?_
  refine jT_xiload_n (v := (0, 0)) (pcN := 7) jI_336_6 rfl rfl rfl ?_
  exact jT_fX [0, 2, 3, 4, 5, 6, 7, 8, 9, 10, 11, 12] 13 (y := 128) (pcN := 10) (dC := 1) (bc1 := 1) (bc2 := 6) (as := [(4, 0), (0, x1), (0, x2), (0, 0)]) (asC := [(4, 0), (0, x1), (0, x2), (0, 0)]) (LN := [(0, (4, 0)), (1, (0, x1)), (2, (0, x2)), (3, (0, 0)), (4, (4, 1))]) (stN := [(0, 0), (4, 1)]) (hsC := jpA_6) (e := 0) (jA_128_410 (d := 0) (by omega) (by omega)) (by rfl) (by rfl) (by decide +kernel) (by rfl) (by rfl) (by omega) (by omega) (by omega) (by omega) (show _ from ⟨rfl, rfl, rfl⟩)
theorem jA_243_412 {xs : List Int} {d : Nat} {x1 x2 : Int} (h_x1 : (-2147483648) ≤ x1 ∧ x1 ≤ (-1)) (h_x2 : (-2147483648) ≤ x2 ∧ x2 ≤ 2147483647) : jT xs (d + 2) 243 16 0 [(0, (4, 0)), (1, (0, x1)), (2, (0, x2)), (3, (0, 0))] [] jpA_22 0 0 (fun k v hsN => k = 0 ∧ v = (0, 0) ∧ hsN = jpA_20) := by
  refine jT_xaload_n (v := (4, 0)) (pcN := 1) jI_243_0 rfl rfl rfl ?_
  refine jT_xiload_n (v := (0, x1)) (pcN := 2) jI_243_1 rfl rfl rfl ?_
  refine jT_fR [] 16 (y := 238) (pcN := 5) (dC := 1) (bc1 := 0) (bc2 := 0) (c1 := 0) (c2 := 0) (as := [(0, x1)]) (asC := [(0, x1)]) (LN := [(0, (4, 0)), (1, (0, x1)), (2, (0, x2)), (3, (0, 0))]) (stN := [(4, 0)]) (hsC := []) (v := (0, 0)) (st2 := [(0, 0), (4, 0)]) (jA_238_313 (d := 0) (by omega)) (by rfl) (by rfl) (by decide +kernel) (by rfl) (by rfl) (by omega) (by omega) (by omega) (by omega) rfl ?_
  refine jT_xifT (pcN := 19) jI_243_5 rfl (by decide +kernel) rfl ?_
  refine jT_xiconst (k := 0) (pcN := 20) jI_243_19 rfl ?_
  refine jT_fB [0, 1, 2, 3, 4, 5, 6, 7, 8, 9, 10, 11, 12, 13, 14, 15] 16 (y := 190) (pcN := 23) (dC := 1) (bc1 := 0) (bc2 := 0) (c1 := 0) (c2 := 0) (as := [(4, 0), (0, 0)]) (asC := [(4, 0), (0, 0)]) (LN := [(0, (4, 0)), (1, (0, x1)), (2, (0, x2)), (3, (0, 0))]) (stN := []) (hsC := jpA_22) (hsD := jpA_20) (v := (0, 1)) (st2 := [(0, 1)]) (hs2 := jpA_20) (jA_190_6 (d := 0)) (by rfl) (by rfl) (by decide +kernel) (by rfl) (by rfl) (by omega) (by omega) (by omega) (by omega) rfl (by decide +kernel) ?_
  refine jT_xifF (t := 28) (pcN := 26) jI_243_23 rfl (by decide +kernel) rfl rfl ?_
  refine jT_xiconst (k := 0) (pcN := 27) jI_243_26 rfl ?_
  exact jT_ret rfl (by decide) (by show 16 ≤ 16; decide) (by omega) (by omega) ⟨rfl, rfl, rfl⟩
theorem jA_128_413 {xs : List Int} {d : Nat} {x1 x2 : Int} (h_x1 : 0 ≤ x1 ∧ x1 ≤ 3) (h_x2 : (-2147483648) ≤ x2 ∧ x2 ≤ (-1)) : jT xs (d + 1) 128 12 0 [(0, (4, 0)), (1, (0, x1)), (2, (0, x2)), (3, (0, 0))] [] jpA_6 1 6 (fun k v hsN => k = 1 ∧ v = (0, 0) ∧ hsN = jpA_6 ++ []) := by
  refine jT_xaload_n (v := (4, 0)) (pcN := 1) jI_128_0 rfl rfl rfl ?_
  refine jT_xiload_n (v := (0, x1)) (pcN := 2) jI_128_1 rfl rfl rfl ?_
  refine jT_xiconst (k := 4) (pcN := 3) jI_128_2 rfl ?_
  refine jT_fR [0] 12 (y := 115) (pcN := 6) (dC := 0) (bc1 := 0) (bc2 := 0) (c1 := 1) (c2 := 6) (as := [(4, 0), (0, x1), (0, 4)]) (asC := [(4, 0), (0, x1), (0, 4)]) (LN := [(0, (4, 0)), (1, (0, x1)), (2, (0, x2)), (3, (0, 0))]) (stN := []) (hsC := [jgh]) (v := (9, 0)) (st2 := []) (jA_115_315 (d := 0) (by omega)) (by rfl) (by rfl) (by decide +kernel) (by rfl) (by rfl) (by omega) (by omega) (by omega) (by omega) rfl ?_
  refine jT_xaload_n (v := (4, 0)) (pcN := 7) jI_128_6 rfl rfl rfl ?_
  refine jT_xiload_n (v := (0, x2)) (pcN := 8) jI_128_7 rfl rfl rfl ?_
  refine jT_xbipush (k := 8) (pcN := 10) jI_128_8 (by decide) rfl ?_
  exact jT_fX [0] 12 (y := 115) (pcN := 13) (dC := 0) (bc1 := 1) (bc2 := 6) (as := [(4, 0), (0, x2), (0, 8)]) (asC := [(4, 0), (0, x2), (0, 8)]) (LN := [(0, (4, 0)), (1, (0, x1)), (2, (0, x2)), (3, (0, 0))]) (stN := []) (hsC := [jgh]) (e := 0) (jA_115_10 (d := 0) (by omega)) (by rfl) (by rfl) (by decide +kernel) (by rfl) (by rfl) (by omega) (by omega) (by omega) (by omega) ⟨rfl, ⟨rfl, rfl, rfl⟩⟩
theorem jA_336_414 {xs : List Int} {d : Nat} {x1 x2 : Int} (h_x1 : 0 ≤ x1 ∧ x1 ≤ 3) (h_x2 : (-2147483648) ≤ x2 ∧ x2 ≤ (-1)) : jT xs (d + 2) 336 13 0 [(0, (4, 0)), (1, (0, x1)), (2, (0, x2)), (3, (0, 0)), (4, (4, 1))] [] jpA_15 1 6 (fun k v hsN => k = 0 ∧ v = (0, 1) ∧ hsN = jpA_15 ++ []) := by
  refine jT_xaload (v := (4, 1)) (pcN := 2) jI_336_0 rfl rfl rfl ?_
  refine jT_xiconst (k := 0) (pcN := 3) jI_336_2 rfl ?_
  refine jT_xaload_n (v := (4, 0)) (pcN := 4) jI_336_3 rfl rfl rfl ?_
  refine jT_xiload_n (v := (0, x1)) (pcN := 5) jI_336_4 rfl rfl rfl ?_
  refine jT_xiload_n (v := (0, x2)) (pcN := 6) jI_336_5 rfl rfl rfl ?_
  refine jT_xiload_n (v := (0, 0)) (pcN := 7) jI_336_6 rfl rfl rfl ?_
  exact jT_fX [0, 2, 3, 4, 5, 6, 7, 8, 9, 10, 11, 12] 13 (y := 128) (pcN := 10) (dC := 1) (bc1 := 1) (bc2 := 6) (as := [(4, 0), (0, x1), (0, x2), (0, 0)]) (asC := [(4, 0), (0, x1), (0, x2), (0, 0)]) (LN := [(0, (4, 0)), (1, (0, x1)), (2, (0, x2)), (3, (0, 0)), (4, (4, 1))]) (stN := [(0, 0), (4, 1)]) (hsC := jpA_6) (e := 0) (jA_128_413 (d := 0) (by omega) (by omega)) (by rfl) (by rfl) (by decide +kernel) (by rfl) (by rfl) (by omega) (by omega) (by omega) (by omega) (show _ from ⟨rfl, rfl, rfl⟩)
theorem jA_243_415 {xs : List Int} {d : Nat} {x1 x2 : Int} (h_x1 : 0 ≤ x1 ∧ x1 ≤ 3) (h_x2 : (-2147483648) ≤ x2 ∧ x2 ≤ (-1)) : jT xs (d + 2) 243 16 0 [(0, (4, 0)), (1, (0, x1)), (2, (0, x2)), (3, (0, 0))] [] jpA_22 0 0 (fun k v hsN => k = 0 ∧ v = (0, 0) ∧ hsN = jpA_20) := by
  refine jT_xaload_n (v := (4, 0)) (pcN := 1) jI_243_0 rfl rfl rfl ?_
  refine jT_xiload_n (v := (0, x1)) (pcN := 2) jI_243_1 rfl rfl rfl ?_
  refine jT_fR [] 16 (y := 238) (pcN := 5) (dC := 1) (bc1 := 0) (bc2 := 0) (c1 := 0) (c2 := 0) (as := [(0, x1)]) (asC := [(0, x1)]) (LN := [(0, (4, 0)), (1, (0, x1)), (2, (0, x2)), (3, (0, 0))]) (stN := [(4, 0)]) (hsC := []) (v := (0, 1)) (st2 := [(0, 1), (4, 0)]) (jA_238_318 (d := 0) (by omega)) (by rfl) (by rfl) (by decide +kernel) (by rfl) (by rfl) (by omega) (by omega) (by omega) (by omega) rfl ?_
  refine jT_xifF (t := 19) (pcN := 8) jI_243_5 rfl (by decide +kernel) rfl rfl ?_
  refine jT_xiload_n (v := (0, x2)) (pcN := 9) jI_243_8 rfl rfl rfl ?_
  refine jT_fR [] 16 (y := 188) (pcN := 12) (dC := 1) (bc1 := 0) (bc2 := 0) (c1 := 0) (c2 := 0) (as := [(0, x2)]) (asC := [(0, x2)]) (LN := [(0, (4, 0)), (1, (0, x1)), (2, (0, x2)), (3, (0, 0))]) (stN := [(4, 0)]) (hsC := []) (v := (0, 0)) (st2 := [(0, 0), (4, 0)]) (jA_188_14 (d := 0) (by omega)) (by rfl) (by rfl) (by decide +kernel) (by rfl) (by rfl) (by omega) (by omega) (by omega) (by omega) rfl ?_
  refine jT_xifT (pcN := 19) jI_243_12 rfl (by decide +kernel) rfl ?_
  refine jT_xiconst (k := 0) (pcN := 20) jI_243_19 rfl ?_
  refine jT_fB [0, 1, 2, 3, 4, 5, 6, 7, 8, 9, 10, 11, 12, 13, 14, 15] 16 (y := 190) (pcN := 23) (dC := 1) (bc1 := 0) (bc2 := 0) (c1 := 0) (c2 := 0) (as := [(4, 0), (0, 0)]) (asC := [(4, 0), (0, 0)]) (LN := [(0, (4, 0)), (1, (0, x1)), (2, (0, x2)), (3, (0, 0))]) (stN := []) (hsC := jpA_22) (hsD := jpA_20) (v := (0, 1)) (st2 := [(0, 1)]) (hs2 := jpA_20) (jA_190_6 (d := 0)) (by rfl) (by rfl) (by decide +kernel) (by rfl) (by rfl) (by omega) (by omega) (by omega) (by omega) rfl (by decide +kernel) ?_
  refine jT_xifF (t := 28) (pcN := 26) jI_243_23 rfl (by decide +kernel) rfl rfl ?_
  refine jT_xiconst (k := 0) (pcN := 27) jI_243_26 rfl ?_
  exact jT_ret rfl (by decide) (by show 16 ≤ 16; decide) (by omega) (by omega) ⟨rfl, rfl, rfl⟩
theorem jA_29_416 {xs : List Int} {d : Nat} : jT xs d 29 3 0 [(0, (4, 0))] [] [(7, [(4, 1), (4, (-1)), (4, (-1))], []), (114, [], [2]), jgh] 0 0 (fun k v hsN => k = 0 ∧ v = (0, 1) ∧ hsN = [(7, [(4, 1), (4, (-1)), (4, (-1))], []), (114, [], [2]), jgh] ++ []) := by
  refine jT_advK 3 (pcN := 5) (LN := [(0, (4, 0))]) (stN := [(0, 1)]) (hsN := [(7, [(4, 1), (4, (-1)), (4, (-1))], []), (114, [], [2]), jgh]) (c1 := 0) (s1 := 0) (c2 := 0) (s2 := 0) (by decide +kernel) ?_ (by omega) (by omega)
  exact jT_ret rfl (by decide) (by show 3 ≤ 3; decide) (by omega) (by omega) ⟨rfl, rfl, rfl⟩
def jpA_1676 : List JC := [jzA_5, (8, [(4, 12), (4, 13)], []), jgh, jgh, jgh, jgh, jgh, jgh, (101, [], [0, 0, 0, 0, 0, 0]), jgh, jgh, jzA_640, jgh, (101, [], [0, 0, 0, 0, 0, 0]), jzA_641, (117, [], [20, 21, 22, 23]), jgh, jgh, jgh, (4, [(4, 24), (1, 1)], []), (7, [(4, 25), (4, (-1)), (4, (-1))], []), jgh, jgh, jgh, (101, [], [0, 0, 0, 0, 0, 0]), (114, [], [19]), (101, [], [0, 0, 0, 0, 0, 0]), (4, [(4, 26), (1, 1)], [])]
theorem jI_128_55 : jmI (jm 128) 55 = (.iload 6, 2) := by rfl
theorem jI_128_57 : jmI (jm 128) 57 = (.ifCond .lt 22, 3) := by rfl
theorem jI_128_60 : jmI (jm 128) 60 = (.aload 4, 2) := by rfl
theorem jI_128_65 : jmI (jm 128) 65 = (.iconst 1, 1) := by rfl
theorem jI_128_66 : jmI (jm 128) 66 = (.if_icmp .ne 13, 3) := by rfl
def jpA_1682 : List JC := [jzA_5, (8, [(4, 12), (4, 13)], []), jgh, jgh, jgh, jgh, jgh, jgh, (101, [], [0, 0, 0, 0, 0, 0]), jgh, jgh, jzA_640, jgh, (101, [], [0, 0, 0, 0, 0, 0]), jzA_641, (117, [], [20, 21, 22, 23]), jgh, jgh, jgh, (4, [(4, 24), (1, 1)], []), (7, [(4, 25), (4, (-1)), (4, (-1))], []), jgh, jgh, jgh, (101, [], [0, 0, 0, 0, 0, 0]), (114, [], [19])]
theorem jA_128_417 {xs : List Int} {d : Nat} {x2 : Int} (h_x2 : 0 ≤ x2 ∧ x2 ≤ 7) : jT xs (d + 5) 128 26 0 [(0, (4, 0)), (1, (0, 0)), (2, (0, x2)), (3, (0, 0))] [] jpA_1682 3 14 (fun k v hsN => k = 1 ∧ v = (0, 3) ∧ hsN = jpA_1682 ++ [(101, [], [0, 0, 0, 0, 0, 0]), (4, [(4, 26), (1, 1)], [])]) := by
  refine jT_xaload_n (v := (4, 0)) (pcN := 1) jI_128_0 rfl rfl rfl ?_
  refine jT_xiload_n (v := (0, 0)) (pcN := 2) jI_128_1 rfl rfl rfl ?_
  refine jT_xiconst (k := 4) (pcN := 3) jI_128_2 rfl ?_
  refine jT_fR [0] 26 (y := 115) (pcN := 6) (dC := 0) (bc1 := 0) (bc2 := 0) (c1 := 3) (c2 := 14) (as := [(4, 0), (0, 0), (0, 4)]) (asC := [(4, 0), (0, 0), (0, 4)]) (LN := [(0, (4, 0)), (1, (0, 0)), (2, (0, x2)), (3, (0, 0))]) (stN := []) (hsC := [jgh]) (v := (9, 0)) (st2 := []) (jA_115_321 (d := 0)) (by rfl) (by rfl) (by decide +kernel) (by rfl) (by rfl) (by omega) (by omega) (by omega) (by omega) rfl ?_
  refine jT_xaload_n (v := (4, 0)) (pcN := 7) jI_128_6 rfl rfl rfl ?_
  refine jT_xiload_n (v := (0, x2)) (pcN := 8) jI_128_7 rfl rfl rfl ?_
  refine jT_xbipush (k := 8) (pcN := 10) jI_128_8 (by decide) rfl ?_
  refine jT_fR [0] 26 (y := 115) (pcN := 13) (dC := 0) (bc1 := 0) (bc2 := 0) (c1 := 3) (c2 := 14) (as := [(4, 0), (0, x2), (0, 8)]) (asC := [(4, 0), (0, x2), (0, 8)]) (LN := [(0, (4, 0)), (1, (0, 0)), (2, (0, x2)), (3, (0, 0))]) (stN := []) (hsC := [jgh]) (v := (9, 0)) (st2 := []) (jA_115_16 (d := 0) (by omega)) (by rfl) (by rfl) (by decide +kernel) (by rfl) (by rfl) (by omega) (by omega) (by omega) (by omega) rfl ?_
  refine jT_xaload_n (v := (4, 0)) (pcN := 14) jI_128_13 rfl rfl rfl ?_
  refine jT_xgetf (a := 0) (t := 1) (ci := 13) (fi := 11) (c := jzA_5) (v := (4, 11)) (pcN := 17) jI_128_14 rfl rfl rfl rfl rfl rfl rfl ?_
  refine jT_xiload_n (v := (0, 0)) (pcN := 18) jI_128_17 rfl rfl rfl ?_
  refine jT_fR [11, 14, 15, 16, 17, 18, 20, 21, 22, 23] 26 (y := 56) (pcN := 21) (dC := 0) (bc1 := 0) (bc2 := 0) (c1 := 3) (c2 := 14) (as := [(4, 11), (0, 0)]) (asC := [(4, 0), (0, 0)]) (LN := [(0, (4, 0)), (1, (0, 0)), (2, (0, x2)), (3, (0, 0))]) (stN := []) (hsC := jpA_1446) (v := (4, 6)) (st2 := [(4, 20)]) (jA_56_322 (d := 0)) (by rfl) (by rfl) (by decide +kernel) (by rfl) (by rfl) (by omega) (by omega) (by omega) (by omega) rfl ?_
  refine jT_xastore (v := (4, 20)) (LN := [(4, (4, 20)), (0, (4, 0)), (1, (0, 0)), (2, (0, x2)), (3, (0, 0))]) (pcN := 23) jI_128_21 rfl rfl rfl rfl ?_
  refine jT_xaload_n (v := (4, 0)) (pcN := 24) jI_128_23 rfl rfl rfl ?_
  refine jT_xaload_n (v := (4, 0)) (pcN := 25) jI_128_24 rfl rfl rfl ?_
  refine jT_xgetf (a := 0) (t := 1) (ci := 13) (fi := 11) (c := jzA_5) (v := (4, 11)) (pcN := 28) jI_128_25 rfl rfl rfl rfl rfl rfl rfl ?_
  refine jT_xiload_n (v := (0, x2)) (pcN := 29) jI_128_28 rfl rfl rfl ?_
  refine jT_fR [11, 14, 15, 16, 17, 18, 19] 26 (y := 57) (pcN := 32) (dC := 0) (bc1 := 0) (bc2 := 0) (c1 := 3) (c2 := 14) (as := [(4, 11), (0, x2)]) (asC := [(4, 0), (0, x2)]) (LN := [(4, (4, 20)), (0, (4, 0)), (1, (0, 0)), (2, (0, x2)), (3, (0, 0))]) (stN := [(4, 0)]) (hsC := jpA_47) (v := (4, 6)) (st2 := [(4, 19), (4, 0)]) (jA_57_24 (d := 0) (by omega)) (by rfl) (by rfl) (by decide +kernel) (by rfl) (by rfl) (by omega) (by omega) (by omega) (by omega) rfl ?_
  refine jT_xiconst (k := 1) (pcN := 33) jI_128_32 rfl ?_
  refine jT_fA [0, 19, 1, 2, 3, 4, 5, 6, 7, 8, 9, 10, 11, 24, 12, 13] 26 (y := 127) (pcN := 36) (dC := 3) (bc1 := 2) (bc2 := 8) (c1 := 1) (c2 := 6) (as := [(4, 0), (4, 19), (0, 1)]) (asC := [(4, 0), (4, 1), (0, 1)]) (LN := [(4, (4, 20)), (0, (4, 0)), (1, (0, 0)), (2, (0, x2)), (3, (0, 0))]) (stN := []) (hsC := jpA_1447) (ex := [(101, [], [0, 0, 0, 0, 0, 0]), (4, [(4, 16), (1, 1)], [])]) (v := (4, 17)) (st2 := [(4, 27)]) (hs2 := jpA_1676) (jA_127_323 (d := 0)) (by rfl) (by rfl) (by decide +kernel) (by rfl) (by rfl) (by omega) (by omega) (by omega) (by omega) rfl (by decide +kernel) ?_
  refine jT_xastore (v := (4, 27)) (LN := [(5, (4, 27)), (4, (4, 20)), (0, (4, 0)), (1, (0, 0)), (2, (0, x2)), (3, (0, 0))]) (pcN := 38) jI_128_36 rfl rfl rfl rfl ?_
  refine jT_xaload (v := (4, 20)) (pcN := 40) jI_128_38 rfl rfl rfl ?_
  refine jT_xaload (v := (4, 27)) (pcN := 42) jI_128_40 rfl rfl rfl ?_
  refine jT_xaload_n (v := (4, 0)) (pcN := 43) jI_128_42 rfl rfl rfl ?_
  refine jT_xgetf (a := 0) (t := 1) (ci := 13) (fi := 0) (c := jzA_5) (v := (4, 1)) (pcN := 46) jI_128_43 rfl rfl rfl rfl rfl rfl rfl ?_
  refine jT_fR [20, 27, 1, 25, 26, 12, 13, 19, 24] 28 (y := 33) (pcN := 49) (dC := 4) (bc1 := 0) (bc2 := 0) (c1 := 1) (c2 := 6) (as := [(4, 20), (4, 27), (4, 1)]) (asC := [(4, 0), (4, 1), (4, 2)]) (LN := [(5, (4, 27)), (4, (4, 20)), (0, (4, 0)), (1, (0, 0)), (2, (0, x2)), (3, (0, 0))]) (stN := []) (hsC := jpA_1451) (v := (0, 0)) (st2 := [(0, 0)]) (jA_33_328 (d := 0)) (by rfl) (by rfl) (by decide +kernel) (by rfl) (by rfl) (by omega) (by omega) (by omega) (by omega) rfl ?_
  refine jT_xistore (v := (0, 0)) (LN := [(6, (0, 0)), (5, (4, 27)), (4, (4, 20)), (0, (4, 0)), (1, (0, 0)), (2, (0, x2)), (3, (0, 0))]) (pcN := 51) jI_128_49 rfl rfl rfl rfl ?_
  refine jT_xiload_n (v := (0, 0)) (pcN := 52) jI_128_51 rfl rfl rfl ?_
  refine jT_xifF (t := 79) (pcN := 55) jI_128_52 rfl (by decide +kernel) rfl rfl ?_
  refine jT_xiload (v := (0, 0)) (pcN := 57) jI_128_55 rfl rfl rfl ?_
  refine jT_xifF (t := 79) (pcN := 60) jI_128_57 rfl (by decide +kernel) rfl rfl ?_
  refine jT_xaload (v := (4, 20)) (pcN := 62) jI_128_60 rfl rfl rfl ?_
  refine jT_fR [20, 25, 19] 28 (y := 29) (pcN := 65) (dC := 0) (bc1 := 0) (bc2 := 0) (c1 := 1) (c2 := 6) (as := [(4, 20)]) (asC := [(4, 0)]) (LN := [(6, (0, 0)), (5, (4, 27)), (4, (4, 20)), (0, (4, 0)), (1, (0, 0)), (2, (0, x2)), (3, (0, 0))]) (stN := []) (hsC := [(7, [(4, 1), (4, (-1)), (4, (-1))], []), (114, [], [2]), jgh]) (v := (0, 1)) (st2 := [(0, 1)]) (jA_29_416 (d := 0)) (by rfl) (by rfl) (by decide +kernel) (by rfl) (by rfl) (by omega) (by omega) (by omega) (by omega) rfl ?_
  refine jT_xiconst (k := 1) (pcN := 66) jI_128_65 rfl ?_
  refine jT_xicF (t := 79) (pcN := 69) jI_128_66 rfl (by decide +kernel) rfl rfl ?_
  exact jT_ret (c1 := 1) (s1 := 6) rfl (by decide) (by show 26 ≤ 28; decide) (by omega) (by omega) ⟨rfl, rfl, rfl⟩
def jpA_1683 : List JC := [jzA_14, jgh, (8, [(4, 13), (4, 14)], []), jgh, jgh, jgh, jgh, jgh, jgh, (101, [], [0, 0, 0, 0, 0, 0]), jgh, jgh, jzA_659, jgh, (101, [], [0, 0, 0, 0, 0, 0]), jzA_660, (117, [], [21, 22, 23, 24]), jgh, jgh, jgh, (4, [(4, 25), (1, 1)], []), (7, [(4, 26), (4, (-1)), (4, (-1))], []), jgh, jgh, jgh, (101, [], [0, 0, 0, 0, 0, 0]), (114, [], [20]), (101, [], [0, 0, 0, 0, 0, 0]), (4, [(4, 27), (1, 1)], [])]
def jpA_1684 : List JC := [jzA_14, jgh, (8, [(4, 13), (4, 14)], []), jgh, jgh, jgh, jgh, jgh, jgh, (101, [], [0, 0, 0, 0, 0, 0]), jgh, jgh, jzA_659, jgh, (101, [], [0, 0, 0, 0, 0, 0]), jzA_660, (117, [], [21, 22, 23, 24]), jgh, jgh, jgh, (4, [(4, 25), (1, 1)], []), (7, [(4, 26), (4, (-1)), (4, (-1))], []), jgh, jgh, jgh, (101, [], [0, 0, 0, 0, 0, 0]), (114, [], [20])]
theorem jA_336_418 {xs : List Int} {d : Nat} {x2 : Int} (h_x2 : 0 ≤ x2 ∧ x2 ≤ 7) : jT xs (d + 6) 336 27 0 [(0, (4, 0)), (1, (0, 0)), (2, (0, x2)), (3, (0, 0)), (4, (4, 1))] [] jpA_1684 3 14 (fun k v hsN => k = 0 ∧ v = (0, 2) ∧ hsN = jpA_1684 ++ [(101, [], [0, 0, 0, 0, 0, 0]), (4, [(4, 27), (1, 1)], [])]) := by
  refine jT_xaload (v := (4, 1)) (pcN := 2) jI_336_0 rfl rfl rfl ?_
  refine jT_xiconst (k := 0) (pcN := 3) jI_336_2 rfl ?_
  refine jT_xaload_n (v := (4, 0)) (pcN := 4) jI_336_3 rfl rfl rfl ?_
  refine jT_xiload_n (v := (0, 0)) (pcN := 5) jI_336_4 rfl rfl rfl ?_
  refine jT_xiload_n (v := (0, x2)) (pcN := 6) jI_336_5 rfl rfl rfl ?_
  refine jT_xiload_n (v := (0, 0)) (pcN := 7) jI_336_6 rfl rfl rfl ?_
  exact jT_fY [0, 2, 3, 4, 5, 6, 7, 8, 9, 10, 11, 12, 13, 14, 15, 16, 17, 18, 19, 20, 21, 22, 23, 24, 25, 26] 27 (y := 128) (pcN := 10) (dC := 5) (bc1 := 3) (bc2 := 14) (as := [(4, 0), (0, 0), (0, x2), (0, 0)]) (asC := [(4, 0), (0, 0), (0, x2), (0, 0)]) (LN := [(0, (4, 0)), (1, (0, 0)), (2, (0, x2)), (3, (0, 0)), (4, (4, 1))]) (stN := [(0, 0), (4, 1)]) (hsC := jpA_1682) (hsD := jpA_1676) (hs2 := jpA_1683) (e := 3) (jA_128_417 (d := 0) (by omega)) (by rfl) (by rfl) (by decide +kernel) (by rfl) (by rfl) (by omega) (by omega) (by omega) (by omega) (by decide +kernel) (show _ from ⟨rfl, rfl, rfl⟩)
def jpA_1685 : List JC := [jzA_21, (100, [], jS0), jgh, jgh, jgh, jgh, (130, [], [16, 17, 18, 19, 20, 21]), (101, [], [0, 0, 0, 0, 0, 0]), jgh, jgh, jgh, jgh, jgh, jgh, jgh, jgh, (100, [], (jenc (jlg 0))), jgh, jgh, jgh, jgh, jgh, (101, [], [0, 0, 0, 0, 0, 0]), (101, [], [(-1), 0, 0, 0, 0, 0]), (100, [], (jenc 0)), (100, [], (jenc (-1))), (100, [], (jenc ((-1) * (jlg 0))))]
theorem jI_243_73 : jmI (jm 243) 73 = (.iload 6, 2) := by rfl
theorem jI_243_75 : jmI (jm 243) 75 = (.ifCond .eq 12, 3) := by rfl
theorem jI_243_78 : jmI (jm 243) 78 = (.aload_n 0, 1) := by rfl
theorem jI_243_79 : jmI (jm 243) 79 = (.iload_n 1, 1) := by rfl
theorem jI_243_83 : jmI (jm 243) 83 = (.iconst 1, 1) := by rfl
theorem jI_243_84 : jmI (jm 243) 84 = (.if_icmp .le 7, 3) := by rfl
theorem jI_243_91 : jmI (jm 243) 91 = (.iconst 0, 1) := by rfl
def jpA_1693 : List JC := [jzA_360, (100, [], jS0), jgh, jgh, jgh, jgh, (130, [], [16, 17, 18, 19, 20, 21]), (101, [], [0, 0, 0, 0, 0, 0]), jgh, jgh, jgh, jgh, jgh, jgh, jgh, jgh, (100, [], (jenc (jlg 0))), jgh, jgh, jgh, jgh, jgh, (101, [], [0, 0, 0, 0, 0, 0]), (101, [], [(-1), 0, 0, 0, 0, 0]), (100, [], (jenc 0)), (100, [], (jenc (-1))), (100, [], (jenc ((-1) * (jlg 0))))]
theorem jI_243_137 : jmI (jm 243) 137 = (.iconst 0, 1) := by rfl
def jpA_1695 : List JC := [jzA_21, (100, [], jS0), jgh, jgh, jgh, jgh, (130, [], [16, 17, 18, 19, 20, 21]), (101, [], [0, 0, 0, 0, 0, 0]), jgh, jgh, jgh, jgh, jgh, jgh, jgh, jgh, (100, [], (jenc (jlg 0))), jgh, jgh, jgh, jgh, jgh]
theorem jA_243_419 {xs : List Int} {d : Nat} {x2 : Int} (h_x2 : 0 ≤ x2 ∧ x2 ≤ 7) : jT xs (d + 7) 243 22 0 [(0, (4, 0)), (1, (0, 0)), (2, (0, x2)), (3, (0, 0))] [] jpA_1695 5 180 (fun k v hsN => k = 0 ∧ v = (0, 0) ∧ hsN = jpA_1693) := by
  refine jT_xaload_n (v := (4, 0)) (pcN := 1) jI_243_0 rfl rfl rfl ?_
  refine jT_xiload_n (v := (0, 0)) (pcN := 2) jI_243_1 rfl rfl rfl ?_
  refine jT_fR [] 22 (y := 238) (pcN := 5) (dC := 1) (bc1 := 0) (bc2 := 0) (c1 := 5) (c2 := 180) (as := [(0, 0)]) (asC := [(0, 0)]) (LN := [(0, (4, 0)), (1, (0, 0)), (2, (0, x2)), (3, (0, 0))]) (stN := [(4, 0)]) (hsC := []) (v := (0, 1)) (st2 := [(0, 1), (4, 0)]) (jA_238_338 (d := 0)) (by rfl) (by rfl) (by decide +kernel) (by rfl) (by rfl) (by omega) (by omega) (by omega) (by omega) rfl ?_
  refine jT_xifF (t := 19) (pcN := 8) jI_243_5 rfl (by decide +kernel) rfl rfl ?_
  refine jT_xiload_n (v := (0, x2)) (pcN := 9) jI_243_8 rfl rfl rfl ?_
  refine jT_fR [] 22 (y := 188) (pcN := 12) (dC := 1) (bc1 := 0) (bc2 := 0) (c1 := 5) (c2 := 180) (as := [(0, x2)]) (asC := [(0, x2)]) (LN := [(0, (4, 0)), (1, (0, 0)), (2, (0, x2)), (3, (0, 0))]) (stN := [(4, 0)]) (hsC := []) (v := (0, 1)) (st2 := [(0, 1), (4, 0)]) (jA_188_20 (d := 0) (by omega)) (by rfl) (by rfl) (by decide +kernel) (by rfl) (by rfl) (by omega) (by omega) (by omega) (by omega) rfl ?_
  refine jT_xifF (t := 19) (pcN := 15) jI_243_12 rfl (by decide +kernel) rfl rfl ?_
  refine jT_xiconst (k := 1) (pcN := 16) jI_243_15 rfl ?_
  refine jT_xgoto (pcN := 20) jI_243_16 rfl ?_
  refine jT_fR [0, 1, 2, 3, 4, 5, 6, 7, 8, 9, 10, 11, 12, 13, 14, 15] 22 (y := 190) (pcN := 23) (dC := 1) (bc1 := 0) (bc2 := 0) (c1 := 5) (c2 := 180) (as := [(4, 0), (0, 1)]) (asC := [(4, 0), (0, 1)]) (LN := [(0, (4, 0)), (1, (0, 0)), (2, (0, x2)), (3, (0, 0))]) (stN := []) (hsC := jpA_22) (v := (0, 0)) (st2 := [(0, 0)]) (jA_190_39 (d := 0)) (by rfl) (by rfl) (by decide +kernel) (by rfl) (by rfl) (by omega) (by omega) (by omega) (by omega) rfl ?_
  refine jT_xifT (pcN := 28) jI_243_23 rfl (by decide +kernel) rfl ?_
  refine jT_xaload_n (v := (4, 0)) (pcN := 29) jI_243_28 rfl rfl rfl ?_
  refine jT_xiload_n (v := (0, x2)) (pcN := 30) jI_243_29 rfl rfl rfl ?_
  refine jT_fR [0, 1, 2, 3, 4, 5, 6, 7, 8, 9, 10, 11, 12, 13, 14, 15] 22 (y := 202) (pcN := 33) (dC := 1) (bc1 := 0) (bc2 := 0) (c1 := 5) (c2 := 180) (as := [(4, 0), (0, x2)]) (asC := [(4, 0), (0, x2)]) (LN := [(0, (4, 0)), (1, (0, 0)), (2, (0, x2)), (3, (0, 0))]) (stN := []) (hsC := jpA_130) (v := (9, 0)) (st2 := []) (jA_202_41 (d := 0) (by omega)) (by rfl) (by rfl) (by decide +kernel) (by rfl) (by rfl) (by omega) (by omega) (by omega) (by omega) rfl ?_
  refine jT_xaload_n (v := (4, 0)) (pcN := 34) jI_243_33 rfl rfl rfl ?_
  refine jT_fA [0, 1, 2, 3, 4, 5, 6, 7, 8, 9, 10, 11, 12, 13, 14, 15, 16, 17, 18, 19, 20, 21] 22 (y := 209) (pcN := 37) (dC := 6) (bc1 := 5) (bc2 := 180) (c1 := 0) (c2 := 0) (as := [(4, 0)]) (asC := [(4, 0)]) (LN := [(0, (4, 0)), (1, (0, 0)), (2, (0, x2)), (3, (0, 0))]) (stN := []) (hsC := jpA_684) (ex := jpA_683) (v := (1, 0)) (st2 := [(1, 0)]) (hs2 := jpA_1685) (jA_209_159 (d := 0)) (by rfl) (by rfl) (by decide +kernel) (by rfl) (by rfl) (by omega) (by omega) (by omega) (by omega) rfl (by decide +kernel) ?_
  refine jT_xlstore (v := (1, 0)) (LN := [(4, (1, 0)), (0, (4, 0)), (1, (0, 0)), (2, (0, x2)), (3, (0, 0))]) (pcN := 39) jI_243_37 rfl rfl rfl rfl ?_
  refine jT_xaload_n (v := (4, 0)) (pcN := 40) jI_243_39 rfl rfl rfl ?_
  refine jT_xiload_n (v := (0, 0)) (pcN := 41) jI_243_40 rfl rfl rfl ?_
  refine jT_fR [0, 1, 2, 3, 4, 5, 6, 7, 8, 9, 10, 11, 12, 13, 14, 15] 27 (y := 244) (pcN := 44) (dC := 1) (bc1 := 0) (bc2 := 0) (c1 := 0) (c2 := 0) (as := [(4, 0), (0, 0)]) (asC := [(4, 0), (0, 0)]) (LN := [(4, (1, 0)), (0, (4, 0)), (1, (0, 0)), (2, (0, x2)), (3, (0, 0))]) (stN := []) (hsC := jpA_130) (v := (0, 1)) (st2 := [(0, 1)]) (jA_244_342 (d := 0)) (by rfl) (by rfl) (by decide +kernel) (by rfl) (by rfl) (by omega) (by omega) (by omega) (by omega) rfl ?_
  refine jT_xistore (v := (0, 1)) (LN := [(6, (0, 1)), (4, (1, 0)), (0, (4, 0)), (1, (0, 0)), (2, (0, x2)), (3, (0, 0))]) (pcN := 46) jI_243_44 rfl rfl rfl rfl ?_
  refine jT_xiload_n (v := (0, 0)) (pcN := 47) jI_243_46 rfl rfl rfl ?_
  refine jT_xifT (pcN := 73) jI_243_47 rfl (by decide +kernel) rfl ?_
  refine jT_xiload (v := (0, 1)) (pcN := 75) jI_243_73 rfl rfl rfl ?_
  refine jT_xifF (t := 87) (pcN := 78) jI_243_75 rfl (by decide +kernel) rfl rfl ?_
  refine jT_xaload_n (v := (4, 0)) (pcN := 79) jI_243_78 rfl rfl rfl ?_
  refine jT_xiload_n (v := (0, 0)) (pcN := 80) jI_243_79 rfl rfl rfl ?_
  refine jT_fR [0, 1, 2, 3, 4, 5, 6, 7, 8, 9, 10, 11, 12, 13, 14, 15] 27 (y := 245) (pcN := 83) (dC := 0) (bc1 := 0) (bc2 := 0) (c1 := 0) (c2 := 0) (as := [(4, 0), (0, 0)]) (asC := [(4, 0), (0, 0)]) (LN := [(6, (0, 1)), (4, (1, 0)), (0, (4, 0)), (1, (0, 0)), (2, (0, x2)), (3, (0, 0))]) (stN := []) (hsC := jpA_1519) (v := (0, 1)) (st2 := [(0, 1)]) (jA_245_339 (d := 0)) (by rfl) (by rfl) (by decide +kernel) (by rfl) (by rfl) (by omega) (by omega) (by omega) (by omega) rfl ?_
  refine jT_xiconst (k := 1) (pcN := 84) jI_243_83 rfl ?_
  refine jT_xicT (pcN := 91) jI_243_84 rfl (by decide +kernel) rfl ?_
  refine jT_xiconst (k := 0) (pcN := 92) jI_243_91 rfl ?_
  refine jT_xistore (v := (0, 0)) (LN := [(7, (0, 0)), (6, (0, 1)), (4, (1, 0)), (0, (4, 0)), (1, (0, 0)), (2, (0, x2)), (3, (0, 0))]) (pcN := 94) jI_243_92 rfl rfl rfl rfl ?_
  refine jT_xaload_n (v := (4, 0)) (pcN := 95) jI_243_94 rfl rfl rfl ?_
  refine jT_xiload (v := (0, 0)) (pcN := 97) jI_243_95 rfl rfl rfl ?_
  refine jT_xiconst (k := 2) (pcN := 98) jI_243_97 rfl ?_
  refine jT_fB [0, 1, 2, 3, 4, 5, 6, 7, 8, 9, 10, 11, 12, 13, 14, 15] 27 (y := 191) (pcN := 101) (dC := 0) (bc1 := 0) (bc2 := 0) (c1 := 0) (c2 := 0) (as := [(4, 0), (0, 0), (0, 2)]) (asC := [(4, 0), (0, 0), (0, 2)]) (LN := [(7, (0, 0)), (6, (0, 1)), (4, (1, 0)), (0, (4, 0)), (1, (0, 0)), (2, (0, x2)), (3, (0, 0))]) (stN := []) (hsC := jpA_22) (hsD := jpA_361) (v := (0, 1)) (st2 := [(0, 1)]) (hs2 := jpA_1693) (jA_191_99 (d := 0)) (by rfl) (by rfl) (by decide +kernel) (by rfl) (by rfl) (by omega) (by omega) (by omega) (by omega) rfl (by decide +kernel) ?_
  refine jT_xifT (pcN := 137) jI_243_101 rfl (by decide +kernel) rfl ?_
  refine jT_xiconst (k := 0) (pcN := 138) jI_243_137 rfl ?_
  exact jT_ret rfl (by decide) (by show 22 ≤ 27; decide) (by omega) (by omega) ⟨rfl, rfl, rfl⟩
def jpA_1696 : List JC := [jzA_5, (8, [(4, 12), (4, 13)], []), jgh, jgh, jgh, jgh, jgh, jgh, (101, [], [0, 0, 0, 0, 0, 0]), jgh, jgh, jzA_640, jgh, (101, [], [0, 0, 0, 0, 0, 0]), jzA_641, (117, [], [20, 21, 22, 23]), jgh, jgh, jgh, (4, [(4, 24), (1, 1)], []), jgh, (7, [(4, 25), (4, (-1)), (4, (-1))], []), jgh, jgh, (101, [], [0, 0, 0, 0, 0, 0]), (114, [], [19]), (101, [], [0, 0, 0, 0, 0, 0]), (4, [(4, 26), (1, 1)], [])]
def jpA_1697 : List JC := [jzA_5, (8, [(4, 12), (4, 13)], []), jgh, jgh, jgh, jgh, jgh, jgh, (101, [], [0, 0, 0, 0, 0, 0]), jgh, jgh, jzA_640, jgh, (101, [], [0, 0, 0, 0, 0, 0]), jzA_641, (117, [], [20, 21, 22, 23]), jgh, jgh, jgh, (4, [(4, 24), (1, 1)], []), jgh, (7, [(4, 25), (4, (-1)), (4, (-1))], []), jgh, jgh, (101, [], [0, 0, 0, 0, 0, 0]), (114, [], [19])]
theorem jA_128_420 {xs : List Int} {d : Nat} {x2 : Int} (h_x2 : 0 ≤ x2 ∧ x2 ≤ 7) : jT xs (d + 5) 128 26 0 [(0, (4, 0)), (1, (0, 1)), (2, (0, x2)), (3, (0, 0))] [] jpA_1697 3 14 (fun k v hsN => k = 1 ∧ v = (0, 3) ∧ hsN = jpA_1697 ++ [(101, [], [0, 0, 0, 0, 0, 0]), (4, [(4, 26), (1, 1)], [])]) := by
  refine jT_xaload_n (v := (4, 0)) (pcN := 1) jI_128_0 rfl rfl rfl ?_
  refine jT_xiload_n (v := (0, 1)) (pcN := 2) jI_128_1 rfl rfl rfl ?_
  refine jT_xiconst (k := 4) (pcN := 3) jI_128_2 rfl ?_
  refine jT_fR [0] 26 (y := 115) (pcN := 6) (dC := 0) (bc1 := 0) (bc2 := 0) (c1 := 3) (c2 := 14) (as := [(4, 0), (0, 1), (0, 4)]) (asC := [(4, 0), (0, 1), (0, 4)]) (LN := [(0, (4, 0)), (1, (0, 1)), (2, (0, x2)), (3, (0, 0))]) (stN := []) (hsC := [jgh]) (v := (9, 0)) (st2 := []) (jA_115_356 (d := 0)) (by rfl) (by rfl) (by decide +kernel) (by rfl) (by rfl) (by omega) (by omega) (by omega) (by omega) rfl ?_
  refine jT_xaload_n (v := (4, 0)) (pcN := 7) jI_128_6 rfl rfl rfl ?_
  refine jT_xiload_n (v := (0, x2)) (pcN := 8) jI_128_7 rfl rfl rfl ?_
  refine jT_xbipush (k := 8) (pcN := 10) jI_128_8 (by decide) rfl ?_
  refine jT_fR [0] 26 (y := 115) (pcN := 13) (dC := 0) (bc1 := 0) (bc2 := 0) (c1 := 3) (c2 := 14) (as := [(4, 0), (0, x2), (0, 8)]) (asC := [(4, 0), (0, x2), (0, 8)]) (LN := [(0, (4, 0)), (1, (0, 1)), (2, (0, x2)), (3, (0, 0))]) (stN := []) (hsC := [jgh]) (v := (9, 0)) (st2 := []) (jA_115_16 (d := 0) (by omega)) (by rfl) (by rfl) (by decide +kernel) (by rfl) (by rfl) (by omega) (by omega) (by omega) (by omega) rfl ?_
  refine jT_xaload_n (v := (4, 0)) (pcN := 14) jI_128_13 rfl rfl rfl ?_
  refine jT_xgetf (a := 0) (t := 1) (ci := 13) (fi := 11) (c := jzA_5) (v := (4, 11)) (pcN := 17) jI_128_14 rfl rfl rfl rfl rfl rfl rfl ?_
  refine jT_xiload_n (v := (0, 1)) (pcN := 18) jI_128_17 rfl rfl rfl ?_
  refine jT_fR [11, 14, 15, 16, 17, 18, 20, 21, 22, 23] 26 (y := 56) (pcN := 21) (dC := 0) (bc1 := 0) (bc2 := 0) (c1 := 3) (c2 := 14) (as := [(4, 11), (0, 1)]) (asC := [(4, 0), (0, 1)]) (LN := [(0, (4, 0)), (1, (0, 1)), (2, (0, x2)), (3, (0, 0))]) (stN := []) (hsC := jpA_1446) (v := (4, 7)) (st2 := [(4, 21)]) (jA_56_357 (d := 0)) (by rfl) (by rfl) (by decide +kernel) (by rfl) (by rfl) (by omega) (by omega) (by omega) (by omega) rfl ?_
  refine jT_xastore (v := (4, 21)) (LN := [(4, (4, 21)), (0, (4, 0)), (1, (0, 1)), (2, (0, x2)), (3, (0, 0))]) (pcN := 23) jI_128_21 rfl rfl rfl rfl ?_
  refine jT_xaload_n (v := (4, 0)) (pcN := 24) jI_128_23 rfl rfl rfl ?_
  refine jT_xaload_n (v := (4, 0)) (pcN := 25) jI_128_24 rfl rfl rfl ?_
  refine jT_xgetf (a := 0) (t := 1) (ci := 13) (fi := 11) (c := jzA_5) (v := (4, 11)) (pcN := 28) jI_128_25 rfl rfl rfl rfl rfl rfl rfl ?_
  refine jT_xiload_n (v := (0, x2)) (pcN := 29) jI_128_28 rfl rfl rfl ?_
  refine jT_fR [11, 14, 15, 16, 17, 18, 19] 26 (y := 57) (pcN := 32) (dC := 0) (bc1 := 0) (bc2 := 0) (c1 := 3) (c2 := 14) (as := [(4, 11), (0, x2)]) (asC := [(4, 0), (0, x2)]) (LN := [(4, (4, 21)), (0, (4, 0)), (1, (0, 1)), (2, (0, x2)), (3, (0, 0))]) (stN := [(4, 0)]) (hsC := jpA_47) (v := (4, 6)) (st2 := [(4, 19), (4, 0)]) (jA_57_24 (d := 0) (by omega)) (by rfl) (by rfl) (by decide +kernel) (by rfl) (by rfl) (by omega) (by omega) (by omega) (by omega) rfl ?_
  refine jT_xiconst (k := 1) (pcN := 33) jI_128_32 rfl ?_
  refine jT_fA [0, 19, 1, 2, 3, 4, 5, 6, 7, 8, 9, 10, 11, 24, 12, 13] 26 (y := 127) (pcN := 36) (dC := 3) (bc1 := 2) (bc2 := 8) (c1 := 1) (c2 := 6) (as := [(4, 0), (4, 19), (0, 1)]) (asC := [(4, 0), (4, 1), (0, 1)]) (LN := [(4, (4, 21)), (0, (4, 0)), (1, (0, 1)), (2, (0, x2)), (3, (0, 0))]) (stN := []) (hsC := jpA_1447) (ex := [(101, [], [0, 0, 0, 0, 0, 0]), (4, [(4, 16), (1, 1)], [])]) (v := (4, 17)) (st2 := [(4, 27)]) (hs2 := jpA_1696) (jA_127_323 (d := 0)) (by rfl) (by rfl) (by decide +kernel) (by rfl) (by rfl) (by omega) (by omega) (by omega) (by omega) rfl (by decide +kernel) ?_
  refine jT_xastore (v := (4, 27)) (LN := [(5, (4, 27)), (4, (4, 21)), (0, (4, 0)), (1, (0, 1)), (2, (0, x2)), (3, (0, 0))]) (pcN := 38) jI_128_36 rfl rfl rfl rfl ?_
  refine jT_xaload (v := (4, 21)) (pcN := 40) jI_128_38 rfl rfl rfl ?_
  refine jT_xaload (v := (4, 27)) (pcN := 42) jI_128_40 rfl rfl rfl ?_
  refine jT_xaload_n (v := (4, 0)) (pcN := 43) jI_128_42 rfl rfl rfl ?_
  refine jT_xgetf (a := 0) (t := 1) (ci := 13) (fi := 0) (c := jzA_5) (v := (4, 1)) (pcN := 46) jI_128_43 rfl rfl rfl rfl rfl rfl rfl ?_
  refine jT_fR [21, 27, 1, 25, 26, 12, 13, 19, 24] 28 (y := 33) (pcN := 49) (dC := 4) (bc1 := 0) (bc2 := 0) (c1 := 1) (c2 := 6) (as := [(4, 21), (4, 27), (4, 1)]) (asC := [(4, 0), (4, 1), (4, 2)]) (LN := [(5, (4, 27)), (4, (4, 21)), (0, (4, 0)), (1, (0, 1)), (2, (0, x2)), (3, (0, 0))]) (stN := []) (hsC := jpA_1451) (v := (0, 0)) (st2 := [(0, 0)]) (jA_33_328 (d := 0)) (by rfl) (by rfl) (by decide +kernel) (by rfl) (by rfl) (by omega) (by omega) (by omega) (by omega) rfl ?_
  refine jT_xistore (v := (0, 0)) (LN := [(6, (0, 0)), (5, (4, 27)), (4, (4, 21)), (0, (4, 0)), (1, (0, 1)), (2, (0, x2)), (3, (0, 0))]) (pcN := 51) jI_128_49 rfl rfl rfl rfl ?_
  refine jT_xiload_n (v := (0, 0)) (pcN := 52) jI_128_51 rfl rfl rfl ?_
  refine jT_xifF (t := 79) (pcN := 55) jI_128_52 rfl (by decide +kernel) rfl rfl ?_
  refine jT_xiload (v := (0, 0)) (pcN := 57) jI_128_55 rfl rfl rfl ?_
  refine jT_xifF (t := 79) (pcN := 60) jI_128_57 rfl (by decide +kernel) rfl rfl ?_
  refine jT_xaload (v := (4, 21)) (pcN := 62) jI_128_60 rfl rfl rfl ?_
  refine jT_fR [21, 25, 19] 28 (y := 29) (pcN := 65) (dC := 0) (bc1 := 0) (bc2 := 0) (c1 := 1) (c2 := 6) (as := [(4, 21)]) (asC := [(4, 0)]) (LN := [(6, (0, 0)), (5, (4, 27)), (4, (4, 21)), (0, (4, 0)), (1, (0, 1)), (2, (0, x2)), (3, (0, 0))]) (stN := []) (hsC := [(7, [(4, 1), (4, (-1)), (4, (-1))], []), (114, [], [2]), jgh]) (v := (0, 1)) (st2 := [(0, 1)]) (jA_29_416 (d := 0)) (by rfl) (by rfl) (by decide +kernel) (by rfl) (by rfl) (by omega) (by omega) (by omega) (by omega) rfl ?_
  refine jT_xiconst (k := 1) (pcN := 66) jI_128_65 rfl ?_
  refine jT_xicF (t := 79) (pcN := 69) jI_128_66 rfl (by decide +kernel) rfl rfl ?_
  exact jT_ret (c1 := 1) (s1 := 6) rfl (by decide) (by show 26 ≤ 28; decide) (by omega) (by omega) ⟨rfl, rfl, rfl⟩
def jpA_1698 : List JC := [jzA_14, jgh, (8, [(4, 13), (4, 14)], []), jgh, jgh, jgh, jgh, jgh, jgh, (101, [], [0, 0, 0, 0, 0, 0]), jgh, jgh, jzA_659, jgh, (101, [], [0, 0, 0, 0, 0, 0]), jzA_660, (117, [], [21, 22, 23, 24]), jgh, jgh, jgh, (4, [(4, 25), (1, 1)], []), jgh, (7, [(4, 26), (4, (-1)), (4, (-1))], []), jgh, jgh, (101, [], [0, 0, 0, 0, 0, 0]), (114, [], [20]), (101, [], [0, 0, 0, 0, 0, 0]), (4, [(4, 27), (1, 1)], [])]
def jpA_1699 : List JC := [jzA_14, jgh, (8, [(4, 13), (4, 14)], []), jgh, jgh, jgh, jgh, jgh, jgh, (101, [], [0, 0, 0, 0, 0, 0]), jgh, jgh, jzA_659, jgh, (101, [], [0, 0, 0, 0, 0, 0]), jzA_660, (117, [], [21, 22, 23, 24]), jgh, jgh, jgh, (4, [(4, 25), (1, 1)], []), jgh, (7, [(4, 26), (4, (-1)), (4, (-1))], []), jgh, jgh, (101, [], [0, 0, 0, 0, 0, 0]), (114, [], [20])]
theorem jA_336_421 {xs : List Int} {d : Nat} {x2 : Int} (h_x2 : 0 ≤ x2 ∧ x2 ≤ 7) : jT xs (d + 6) 336 27 0 [(0, (4, 0)), (1, (0, 1)), (2, (0, x2)), (3, (0, 0)), (4, (4, 1))] [] jpA_1699 3 14 (fun k v hsN => k = 0 ∧ v = (0, 2) ∧ hsN = jpA_1699 ++ [(101, [], [0, 0, 0, 0, 0, 0]), (4, [(4, 27), (1, 1)], [])]) := by
  refine jT_xaload (v := (4, 1)) (pcN := 2) jI_336_0 rfl rfl rfl ?_
  refine jT_xiconst (k := 0) (pcN := 3) jI_336_2 rfl ?_
  refine jT_xaload_n (v := (4, 0)) (pcN := 4) jI_336_3 rfl rfl rfl ?_
  refine jT_xiload_n (v := (0, 1)) (pcN := 5) jI_336_4 rfl rfl rfl ?_
  refine jT_xiload_n (v := (0, x2)) (pcN := 6) jI_336_5 rfl rfl rfl ?_
  refine jT_xiload_n (v := (0, 0)) (pcN := 7) jI_336_6 rfl rfl rfl ?_
  exact jT_fY [0, 2, 3, 4, 5, 6, 7, 8, 9, 10, 11, 12, 13, 14, 15, 16, 17, 18, 19, 20, 21, 22, 23, 24, 25, 26] 27 (y := 128) (pcN := 10) (dC := 5) (bc1 := 3) (bc2 := 14) (as := [(4, 0), (0, 1), (0, x2), (0, 0)]) (asC := [(4, 0), (0, 1), (0, x2), (0, 0)]) (LN := [(0, (4, 0)), (1, (0, 1)), (2, (0, x2)), (3, (0, 0)), (4, (4, 1))]) (stN := [(0, 0), (4, 1)]) (hsC := jpA_1697) (hsD := jpA_1696) (hs2 := jpA_1698) (e := 3) (jA_128_420 (d := 0) (by omega)) (by rfl) (by rfl) (by decide +kernel) (by rfl) (by rfl) (by omega) (by omega) (by omega) (by omega) (by decide +kernel) (show _ from ⟨rfl, rfl, rfl⟩)
theorem jA_243_422 {xs : List Int} {d : Nat} {x2 : Int} (h_x2 : 0 ≤ x2 ∧ x2 ≤ 7) : jT xs (d + 7) 243 22 0 [(0, (4, 0)), (1, (0, 1)), (2, (0, x2)), (3, (0, 0))] [] jpA_1695 5 180 (fun k v hsN => k = 0 ∧ v = (0, 0) ∧ hsN = jpA_1693) := by
  refine jT_xaload_n (v := (4, 0)) (pcN := 1) jI_243_0 rfl rfl rfl ?_
  refine jT_xiload_n (v := (0, 1)) (pcN := 2) jI_243_1 rfl rfl rfl ?_
  refine jT_fR [] 22 (y := 238) (pcN := 5) (dC := 1) (bc1 := 0) (bc2 := 0) (c1 := 5) (c2 := 180) (as := [(0, 1)]) (asC := [(0, 1)]) (LN := [(0, (4, 0)), (1, (0, 1)), (2, (0, x2)), (3, (0, 0))]) (stN := [(4, 0)]) (hsC := []) (v := (0, 1)) (st2 := [(0, 1), (4, 0)]) (jA_238_362 (d := 0)) (by rfl) (by rfl) (by decide +kernel) (by rfl) (by rfl) (by omega) (by omega) (by omega) (by omega) rfl ?_
  refine jT_xifF (t := 19) (pcN := 8) jI_243_5 rfl (by decide +kernel) rfl rfl ?_
  refine jT_xiload_n (v := (0, x2)) (pcN := 9) jI_243_8 rfl rfl rfl ?_
  refine jT_fR [] 22 (y := 188) (pcN := 12) (dC := 1) (bc1 := 0) (bc2 := 0) (c1 := 5) (c2 := 180) (as := [(0, x2)]) (asC := [(0, x2)]) (LN := [(0, (4, 0)), (1, (0, 1)), (2, (0, x2)), (3, (0, 0))]) (stN := [(4, 0)]) (hsC := []) (v := (0, 1)) (st2 := [(0, 1), (4, 0)]) (jA_188_20 (d := 0) (by omega)) (by rfl) (by rfl) (by decide +kernel) (by rfl) (by rfl) (by omega) (by omega) (by omega) (by omega) rfl ?_
  refine jT_xifF (t := 19) (pcN := 15) jI_243_12 rfl (by decide +kernel) rfl rfl ?_
  refine jT_xiconst (k := 1) (pcN := 16) jI_243_15 rfl ?_
  refine jT_xgoto (pcN := 20) jI_243_16 rfl ?_
  refine jT_fR [0, 1, 2, 3, 4, 5, 6, 7, 8, 9, 10, 11, 12, 13, 14, 15] 22 (y := 190) (pcN := 23) (dC := 1) (bc1 := 0) (bc2 := 0) (c1 := 5) (c2 := 180) (as := [(4, 0), (0, 1)]) (asC := [(4, 0), (0, 1)]) (LN := [(0, (4, 0)), (1, (0, 1)), (2, (0, x2)), (3, (0, 0))]) (stN := []) (hsC := jpA_22) (v := (0, 0)) (st2 := [(0, 0)]) (jA_190_39 (d := 0)) (by rfl) (by rfl) (by decide +kernel) (by rfl) (by rfl) (by omega) (by omega) (by omega) (by omega) rfl ?_
  refine jT_xifT (pcN := 28) jI_243_23 rfl (by decide +kernel) rfl ?_
  refine jT_xaload_n (v := (4, 0)) (pcN := 29) jI_243_28 rfl rfl rfl ?_
  refine jT_xiload_n (v := (0, x2)) (pcN := 30) jI_243_29 rfl rfl rfl ?_
  refine jT_fR [0, 1, 2, 3, 4, 5, 6, 7, 8, 9, 10, 11, 12, 13, 14, 15] 22 (y := 202) (pcN := 33) (dC := 1) (bc1 := 0) (bc2 := 0) (c1 := 5) (c2 := 180) (as := [(4, 0), (0, x2)]) (asC := [(4, 0), (0, x2)]) (LN := [(0, (4, 0)), (1, (0, 1)), (2, (0, x2)), (3, (0, 0))]) (stN := []) (hsC := jpA_130) (v := (9, 0)) (st2 := []) (jA_202_41 (d := 0) (by omega)) (by rfl) (by rfl) (by decide +kernel) (by rfl) (by rfl) (by omega) (by omega) (by omega) (by omega) rfl ?_
  refine jT_xaload_n (v := (4, 0)) (pcN := 34) jI_243_33 rfl rfl rfl ?_
  refine jT_fA [0, 1, 2, 3, 4, 5, 6, 7, 8, 9, 10, 11, 12, 13, 14, 15, 16, 17, 18, 19, 20, 21] 22 (y := 209) (pcN := 37) (dC := 6) (bc1 := 5) (bc2 := 180) (c1 := 0) (c2 := 0) (as := [(4, 0)]) (asC := [(4, 0)]) (LN := [(0, (4, 0)), (1, (0, 1)), (2, (0, x2)), (3, (0, 0))]) (stN := []) (hsC := jpA_684) (ex := jpA_683) (v := (1, 0)) (st2 := [(1, 0)]) (hs2 := jpA_1685) (jA_209_159 (d := 0)) (by rfl) (by rfl) (by decide +kernel) (by rfl) (by rfl) (by omega) (by omega) (by omega) (by omega) rfl (by decide +kernel) ?_
  refine jT_xlstore (v := (1, 0)) (LN := [(4, (1, 0)), (0, (4, 0)), (1, (0, 1)), (2, (0, x2)), (3, (0, 0))]) (pcN := 39) jI_243_37 rfl rfl rfl rfl ?_
  refine jT_xaload_n (v := (4, 0)) (pcN := 40) jI_243_39 rfl rfl rfl ?_
  refine jT_xiload_n (v := (0, 1)) (pcN := 41) jI_243_40 rfl rfl rfl ?_
  refine jT_fR [0, 1, 2, 3, 4, 5, 6, 7, 8, 9, 10, 11, 12, 13, 14, 15] 27 (y := 244) (pcN := 44) (dC := 1) (bc1 := 0) (bc2 := 0) (c1 := 0) (c2 := 0) (as := [(4, 0), (0, 1)]) (asC := [(4, 0), (0, 1)]) (LN := [(4, (1, 0)), (0, (4, 0)), (1, (0, 1)), (2, (0, x2)), (3, (0, 0))]) (stN := []) (hsC := jpA_130) (v := (0, 1)) (st2 := [(0, 1)]) (jA_244_366 (d := 0)) (by rfl) (by rfl) (by decide +kernel) (by rfl) (by rfl) (by omega) (by omega) (by omega) (by omega) rfl ?_
  refine jT_xistore (v := (0, 1)) (LN := [(6, (0, 1)), (4, (1, 0)), (0, (4, 0)), (1, (0, 1)), (2, (0, x2)), (3, (0, 0))]) (pcN := 46) jI_243_44 rfl rfl rfl rfl ?_
  refine jT_xiload_n (v := (0, 0)) (pcN := 47) jI_243_46 rfl rfl rfl ?_
  refine jT_xifT (pcN := 73) jI_243_47 rfl (by decide +kernel) rfl ?_
  refine jT_xiload (v := (0, 1)) (pcN := 75) jI_243_73 rfl rfl rfl ?_
  refine jT_xifF (t := 87) (pcN := 78) jI_243_75 rfl (by decide +kernel) rfl rfl ?_
  refine jT_xaload_n (v := (4, 0)) (pcN := 79) jI_243_78 rfl rfl rfl ?_
  refine jT_xiload_n (v := (0, 1)) (pcN := 80) jI_243_79 rfl rfl rfl ?_
  refine jT_fR [0, 1, 2, 3, 4, 5, 6, 7, 8, 9, 10, 11, 12, 13, 14, 15] 27 (y := 245) (pcN := 83) (dC := 0) (bc1 := 0) (bc2 := 0) (c1 := 0) (c2 := 0) (as := [(4, 0), (0, 1)]) (asC := [(4, 0), (0, 1)]) (LN := [(6, (0, 1)), (4, (1, 0)), (0, (4, 0)), (1, (0, 1)), (2, (0, x2)), (3, (0, 0))]) (stN := []) (hsC := jpA_1519) (v := (0, 1)) (st2 := [(0, 1)]) (jA_245_363 (d := 0)) (by rfl) (by rfl) (by decide +kernel) (by rfl) (by rfl) (by omega) (by omega) (by omega) (by omega) rfl ?_
  refine jT_xiconst (k := 1) (pcN := 84) jI_243_83 rfl ?_
  refine jT_xicT (pcN := 91) jI_243_84 rfl (by decide +kernel) rfl ?_
  refine jT_xiconst (k := 0) (pcN := 92) jI_243_91 rfl ?_
  refine jT_xistore (v := (0, 0)) (LN := [(7, (0, 0)), (6, (0, 1)), (4, (1, 0)), (0, (4, 0)), (1, (0, 1)), (2, (0, x2)), (3, (0, 0))]) (pcN := 94) jI_243_92 rfl rfl rfl rfl ?_
  refine jT_xaload_n (v := (4, 0)) (pcN := 95) jI_243_94 rfl rfl rfl ?_
  refine jT_xiload (v := (0, 0)) (pcN := 97) jI_243_95 rfl rfl rfl ?_
  refine jT_xiconst (k := 2) (pcN := 98) jI_243_97 rfl ?_
  refine jT_fB [0, 1, 2, 3, 4, 5, 6, 7, 8, 9, 10, 11, 12, 13, 14, 15] 27 (y := 191) (pcN := 101) (dC := 0) (bc1 := 0) (bc2 := 0) (c1 := 0) (c2 := 0) (as := [(4, 0), (0, 0), (0, 2)]) (asC := [(4, 0), (0, 0), (0, 2)]) (LN := [(7, (0, 0)), (6, (0, 1)), (4, (1, 0)), (0, (4, 0)), (1, (0, 1)), (2, (0, x2)), (3, (0, 0))]) (stN := []) (hsC := jpA_22) (hsD := jpA_361) (v := (0, 1)) (st2 := [(0, 1)]) (hs2 := jpA_1693) (jA_191_99 (d := 0)) (by rfl) (by rfl) (by decide +kernel) (by rfl) (by rfl) (by omega) (by omega) (by omega) (by omega) rfl (by decide +kernel) ?_
  refine jT_xifT (pcN := 137) jI_243_101 rfl (by decide +kernel) rfl ?_
  refine jT_xiconst (k := 0) (pcN := 138) jI_243_137 rfl ?_
  exact jT_ret rfl (by decide) (by show 22 ≤ 27; decide) (by omega) (by omega) ⟨rfl, rfl, rfl⟩
def jpA_1700 : List JC := [jzA_5, (8, [(4, 12), (4, 13)], []), jgh, jgh, jgh, jgh, jgh, jgh, (101, [], [0, 0, 0, 0, 0, 0]), jgh, jgh, jzA_640, jgh, (101, [], [0, 0, 0, 0, 0, 0]), jzA_641, (117, [], [20, 21, 22, 23]), jgh, jgh, jgh, (4, [(4, 24), (1, 1)], []), jgh, jgh, (7, [(4, 25), (4, (-1)), (4, (-1))], []), jgh, (101, [], [0, 0, 0, 0, 0, 0]), (114, [], [19]), (101, [], [0, 0, 0, 0, 0, 0]), (4, [(4, 26), (1, 1)], [])]
def jpA_1701 : List JC := [jzA_5, (8, [(4, 12), (4, 13)], []), jgh, jgh, jgh, jgh, jgh, jgh, (101, [], [0, 0, 0, 0, 0, 0]), jgh, jgh, jzA_640, jgh, (101, [], [0, 0, 0, 0, 0, 0]), jzA_641, (117, [], [20, 21, 22, 23]), jgh, jgh, jgh, (4, [(4, 24), (1, 1)], []), jgh, jgh, (7, [(4, 25), (4, (-1)), (4, (-1))], []), jgh, (101, [], [0, 0, 0, 0, 0, 0]), (114, [], [19])]
theorem jA_128_423 {xs : List Int} {d : Nat} {x2 : Int} (h_x2 : 0 ≤ x2 ∧ x2 ≤ 7) : jT xs (d + 5) 128 26 0 [(0, (4, 0)), (1, (0, 2)), (2, (0, x2)), (3, (0, 0))] [] jpA_1701 3 14 (fun k v hsN => k = 1 ∧ v = (0, 3) ∧ hsN = jpA_1701 ++ [(101, [], [0, 0, 0, 0, 0, 0]), (4, [(4, 26), (1, 1)], [])]) := by
  refine jT_xaload_n (v := (4, 0)) (pcN := 1) jI_128_0 rfl rfl rfl ?_
  refine jT_xiload_n (v := (0, 2)) (pcN := 2) jI_128_1 rfl rfl rfl ?_
  refine jT_xiconst (k := 4) (pcN := 3) jI_128_2 rfl ?_
  refine jT_fR [0] 26 (y := 115) (pcN := 6) (dC := 0) (bc1 := 0) (bc2 := 0) (c1 := 3) (c2 := 14) (as := [(4, 0), (0, 2), (0, 4)]) (asC := [(4, 0), (0, 2), (0, 4)]) (LN := [(0, (4, 0)), (1, (0, 2)), (2, (0, x2)), (3, (0, 0))]) (stN := []) (hsC := [jgh]) (v := (9, 0)) (st2 := []) (jA_115_372 (d := 0)) (by rfl) (by rfl) (by decide +kernel) (by rfl) (by rfl) (by omega) (by omega) (by omega) (by omega) rfl ?_
  refine jT_xaload_n (v := (4, 0)) (pcN := 7) jI_128_6 rfl rfl rfl ?_
  refine jT_xiload_n (v := (0, x2)) (pcN := 8) jI_128_7 rfl rfl rfl ?_
  refine jT_xbipush (k := 8) (pcN := 10) jI_128_8 (by decide) rfl ?_
  refine jT_fR [0] 26 (y := 115) (pcN := 13) (dC := 0) (bc1 := 0) (bc2 := 0) (c1 := 3) (c2 := 14) (as := [(4, 0), (0, x2), (0, 8)]) (asC := [(4, 0), (0, x2), (0, 8)]) (LN := [(0, (4, 0)), (1, (0, 2)), (2, (0, x2)), (3, (0, 0))]) (stN := []) (hsC := [jgh]) (v := (9, 0)) (st2 := []) (jA_115_16 (d := 0) (by omega)) (by rfl) (by rfl) (by decide +kernel) (by rfl) (by rfl) (by omega) (by omega) (by omega) (by omega) rfl ?_
  refine jT_xaload_n (v := (4, 0)) (pcN := 14) jI_128_13 rfl rfl rfl ?_
  refine jT_xgetf (a := 0) (t := 1) (ci := 13) (fi := 11) (c := jzA_5) (v := (4, 11)) (pcN := 17) jI_128_14 rfl rfl rfl rfl rfl rfl rfl ?_
  refine jT_xiload_n (v := (0, 2)) (pcN := 18) jI_128_17 rfl rfl rfl ?_
  refine jT_fR [11, 14, 15, 16, 17, 18, 20, 21, 22, 23] 26 (y := 56) (pcN := 21) (dC := 0) (bc1 := 0) (bc2 := 0) (c1 := 3) (c2 := 14) (as := [(4, 11), (0, 2)]) (asC := [(4, 0), (0, 2)]) (LN := [(0, (4, 0)), (1, (0, 2)), (2, (0, x2)), (3, (0, 0))]) (stN := []) (hsC := jpA_1446) (v := (4, 8)) (st2 := [(4, 22)]) (jA_56_373 (d := 0)) (by rfl) (by rfl) (by decide +kernel) (by rfl) (by rfl) (by omega) (by omega) (by omega) (by omega) rfl ?_
  refine jT_xastore (v := (4, 22)) (LN := [(4, (4, 22)), (0, (4, 0)), (1, (0, 2)), (2, (0, x2)), (3, (0, 0))]) (pcN := 23) jI_128_21 rfl rfl rfl rfl ?_
  refine jT_xaload_n (v := (4, 0)) (pcN := 24) jI_128_23 rfl rfl rfl ?_
  refine jT_xaload_n (v := (4, 0)) (pcN := 25) jI_128_24 rfl rfl rfl ?_
  refine jT_xgetf (a := 0) (t := 1) (ci := 13) (fi := 11) (c := jzA_5) (v := (4, 11)) (pcN := 28) jI_128_25 rfl rfl rfl rfl rfl rfl rfl ?_
  refine jT_xiload_n (v := (0, x2)) (pcN := 29) jI_128_28 rfl rfl rfl ?_
  refine jT_fR [11, 14, 15, 16, 17, 18, 19] 26 (y := 57) (pcN := 32) (dC := 0) (bc1 := 0) (bc2 := 0) (c1 := 3) (c2 := 14) (as := [(4, 11), (0, x2)]) (asC := [(4, 0), (0, x2)]) (LN := [(4, (4, 22)), (0, (4, 0)), (1, (0, 2)), (2, (0, x2)), (3, (0, 0))]) (stN := [(4, 0)]) (hsC := jpA_47) (v := (4, 6)) (st2 := [(4, 19), (4, 0)]) (jA_57_24 (d := 0) (by omega)) (by rfl) (by rfl) (by decide +kernel) (by rfl) (by rfl) (by omega) (by omega) (by omega) (by omega) rfl ?_
  refine jT_xiconst (k := 1) (pcN := 33) jI_128_32 rfl ?_
  refine jT_fA [0, 19, 1, 2, 3, 4, 5, 6, 7, 8, 9, 10, 11, 24, 12, 13] 26 (y := 127) (pcN := 36) (dC := 3) (bc1 := 2) (bc2 := 8) (c1 := 1) (c2 := 6) (as := [(4, 0), (4, 19), (0, 1)]) (asC := [(4, 0), (4, 1), (0, 1)]) (LN := [(4, (4, 22)), (0, (4, 0)), (1, (0, 2)), (2, (0, x2)), (3, (0, 0))]) (stN := []) (hsC := jpA_1447) (ex := [(101, [], [0, 0, 0, 0, 0, 0]), (4, [(4, 16), (1, 1)], [])]) (v := (4, 17)) (st2 := [(4, 27)]) (hs2 := jpA_1700) (jA_127_323 (d := 0)) (by rfl) (by rfl) (by decide +kernel) (by rfl) (by rfl) (by omega) (by omega) (by omega) (by omega) rfl (by decide +kernel) ?_
  refine jT_xastore (v := (4, 27)) (LN := [(5, (4, 27)), (4, (4, 22)), (0, (4, 0)), (1, (0, 2)), (2, (0, x2)), (3, (0, 0))]) (pcN := 38) jI_128_36 rfl rfl rfl rfl ?_
  refine jT_xaload (v := (4, 22)) (pcN := 40) jI_128_38 rfl rfl rfl ?_
  refine jT_xaload (v := (4, 27)) (pcN := 42) jI_128_40 rfl rfl rfl ?_
  refine jT_xaload_n (v := (4, 0)) (pcN := 43) jI_128_42 rfl rfl rfl ?_
  refine jT_xgetf (a := 0) (t := 1) (ci := 13) (fi := 0) (c := jzA_5) (v := (4, 1)) (pcN := 46) jI_128_43 rfl rfl rfl rfl rfl rfl rfl ?_
  refine jT_fR [22, 27, 1, 25, 26, 12, 13, 19, 24] 28 (y := 33) (pcN := 49) (dC := 4) (bc1 := 0) (bc2 := 0) (c1 := 1) (c2 := 6) (as := [(4, 22), (4, 27), (4, 1)]) (asC := [(4, 0), (4, 1), (4, 2)]) (LN := [(5, (4, 27)), (4, (4, 22)), (0, (4, 0)), (1, (0, 2)), (2, (0, x2)), (3, (0, 0))]) (stN := []) (hsC := jpA_1451) (v := (0, 0)) (st2 := [(0, 0)]) (jA_33_328 (d := 0)) (by rfl) (by rfl) (by decide +kernel) (by rfl) (by rfl) (by omega) (by omega) (by omega) (by omega) rfl ?_
  refine jT_xistore (v := (0, 0)) (LN := [(6, (0, 0)), (5, (4, 27)), (4, (4, 22)), (0, (4, 0)), (1, (0, 2)), (2, (0, x2)), (3, (0, 0))]) (pcN := 51) jI_128_49 rfl rfl rfl rfl ?_
  refine jT_xiload_n (v := (0, 0)) (pcN := 52) jI_128_51 rfl rfl rfl ?_
  refine jT_xifF (t := 79) (pcN := 55) jI_128_52 rfl (by decide +kernel) rfl rfl ?_
  refine jT_xiload (v := (0, 0)) (pcN := 57) jI_128_55 rfl rfl rfl ?_
  refine jT_xifF (t := 79) (pcN := 60) jI_128_57 rfl (by decide +kernel) rfl rfl ?_
  refine jT_xaload (v := (4, 22)) (pcN := 62) jI_128_60 rfl rfl rfl ?_
  refine jT_fR [22, 25, 19] 28 (y := 29) (pcN := 65) (dC := 0) (bc1 := 0) (bc2 := 0) (c1 := 1) (c2 := 6) (as := [(4, 22)]) (asC := [(4, 0)]) (LN := [(6, (0, 0)), (5, (4, 27)), (4, (4, 22)), (0, (4, 0)), (1, (0, 2)), (2, (0, x2)), (3, (0, 0))]) (stN := []) (hsC := [(7, [(4, 1), (4, (-1)), (4, (-1))], []), (114, [], [2]), jgh]) (v := (0, 1)) (st2 := [(0, 1)]) (jA_29_416 (d := 0)) (by rfl) (by rfl) (by decide +kernel) (by rfl) (by rfl) (by omega) (by omega) (by omega) (by omega) rfl ?_
  refine jT_xiconst (k := 1) (pcN := 66) jI_128_65 rfl ?_
  refine jT_xicF (t := 79) (pcN := 69) jI_128_66 rfl (by decide +kernel) rfl rfl ?_
  exact jT_ret (c1 := 1) (s1 := 6) rfl (by decide) (by show 26 ≤ 28; decide) (by omega) (by omega) ⟨rfl, rfl, rfl⟩
def jpA_1702 : List JC := [jzA_14, jgh, (8, [(4, 13), (4, 14)], []), jgh, jgh, jgh, jgh, jgh, jgh, (101, [], [0, 0, 0, 0, 0, 0]), jgh, jgh, jzA_659, jgh, (101, [], [0, 0, 0, 0, 0, 0]), jzA_660, (117, [], [21, 22, 23, 24]), jgh, jgh, jgh, (4, [(4, 25), (1, 1)], []), jgh, jgh, (7, [(4, 26), (4, (-1)), (4, (-1))], []), jgh, (101, [], [0, 0, 0, 0, 0, 0]), (114, [], [20]), (101, [], [0, 0, 0, 0, 0, 0]), (4, [(4, 27), (1, 1)], [])]
def jpA_1703 : List JC := [jzA_14, jgh, (8, [(4, 13), (4, 14)], []), jgh, jgh, jgh, jgh, jgh, jgh, (101, [], [0, 0, 0, 0, 0, 0]), jgh, jgh, jzA_659, jgh, (101, [], [0, 0, 0, 0, 0, 0]), jzA_660, (117, [], [21, 22, 23, 24]), jgh, jgh, jgh, (4, [(4, 25), (1, 1)], []), jgh, jgh, (7, [(4, 26), (4, (-1)), (4, (-1))], []), jgh, (101, [], [0, 0, 0, 0, 0, 0]), (114, [], [20])]
theorem jA_336_424 {xs : List Int} {d : Nat} {x2 : Int} (h_x2 : 0 ≤ x2 ∧ x2 ≤ 7) : jT xs (d + 6) 336 27 0 [(0, (4, 0)), (1, (0, 2)), (2, (0, x2)), (3, (0, 0)), (4, (4, 1))] [] jpA_1703 3 14 (fun k v hsN => k = 0 ∧ v = (0, 2) ∧ hsN = jpA_1703 ++ [(101, [], [0, 0, 0, 0, 0, 0]), (4, [(4, 27), (1, 1)], [])]) := by
  refine jT_xaload (v := (4, 1)) (pcN := 2) jI_336_0 rfl rfl rfl ?_
  refine jT_xiconst (k := 0) (pcN := 3) jI_336_2 rfl ?_
  refine jT_xaload_n (v := (4, 0)) (pcN := 4) jI_336_3 rfl rfl rfl ?_
  refine jT_xiload_n (v := (0, 2)) (pcN := 5) jI_336_4 rfl rfl rfl ?_
  refine jT_xiload_n (v := (0, x2)) (pcN := 6) jI_336_5 rfl rfl rfl ?_
  refine jT_xiload_n (v := (0, 0)) (pcN := 7) jI_336_6 rfl rfl rfl ?_
  exact jT_fY [0, 2, 3, 4, 5, 6, 7, 8, 9, 10, 11, 12, 13, 14, 15, 16, 17, 18, 19, 20, 21, 22, 23, 24, 25, 26] 27 (y := 128) (pcN := 10) (dC := 5) (bc1 := 3) (bc2 := 14) (as := [(4, 0), (0, 2), (0, x2), (0, 0)]) (asC := [(4, 0), (0, 2), (0, x2), (0, 0)]) (LN := [(0, (4, 0)), (1, (0, 2)), (2, (0, x2)), (3, (0, 0)), (4, (4, 1))]) (stN := [(0, 0), (4, 1)]) (hsC := jpA_1701) (hsD := jpA_1700) (hs2 := jpA_1702) (e := 3) (jA_128_423 (d := 0) (by omega)) (by rfl) (by rfl) (by decide +kernel) (by rfl) (by rfl) (by omega) (by omega) (by omega) (by omega) (by decide +kernel) (show _ from ⟨rfl, rfl, rfl⟩)
theorem jA_243_425 {xs : List Int} {d : Nat} {x2 : Int} (h_x2 : 0 ≤ x2 ∧ x2 ≤ 7) : jT xs (d + 7) 243 22 0 [(0, (4, 0)), (1, (0, 2)), (2, (0, x2)), (3, (0, 0))] [] jpA_1695 5 180 (fun k v hsN => k = 0 ∧ v = (0, 0) ∧ hsN = jpA_1693) := by
  refine jT_xaload_n (v := (4, 0)) (pcN := 1) jI_243_0 rfl rfl rfl ?_
  refine jT_xiload_n (v := (0, 2)) (pcN := 2) jI_243_1 rfl rfl rfl ?_
  refine jT_fR [] 22 (y := 238) (pcN := 5) (dC := 1) (bc1 := 0) (bc2 := 0) (c1 := 5) (c2 := 180) (as := [(0, 2)]) (asC := [(0, 2)]) (LN := [(0, (4, 0)), (1, (0, 2)), (2, (0, x2)), (3, (0, 0))]) (stN := [(4, 0)]) (hsC := []) (v := (0, 1)) (st2 := [(0, 1), (4, 0)]) (jA_238_378 (d := 0)) (by rfl) (by rfl) (by decide +kernel) (by rfl) (by rfl) (by omega) (by omega) (by omega) (by omega) rfl ?_
  refine jT_xifF (t := 19) (pcN := 8) jI_243_5 rfl (by decide +kernel) rfl rfl ?_
  refine jT_xiload_n (v := (0, x2)) (pcN := 9) jI_243_8 rfl rfl rfl ?_
  refine jT_fR [] 22 (y := 188) (pcN := 12) (dC := 1) (bc1 := 0) (bc2 := 0) (c1 := 5) (c2 := 180) (as := [(0, x2)]) (asC := [(0, x2)]) (LN := [(0, (4, 0)), (1, (0, 2)), (2, (0, x2)), (3, (0, 0))]) (stN := [(4, 0)]) (hsC := []) (v := (0, 1)) (st2 := [(0, 1), (4, 0)]) (jA_188_20 (d := 0) (by omega)) (by rfl) (by rfl) (by decide +kernel) (by rfl) (by rfl) (by omega) (by omega) (by omega) (by omega) rfl ?_
  refine jT_xifF (t := 19) (pcN := 15) jI_243_12 rfl (by decide +kernel) rfl rfl ?_
  refine jT_xiconst (k := 1) (pcN := 16) jI_243_15 rfl ?_
  refine jT_xgoto (pcN := 20) jI_243_16 rfl ?_
  refine jT_fR [0, 1, 2, 3, 4, 5, 6, 7, 8, 9, 10, 11, 12, 13, 14, 15] 22 (y := 190) (pcN := 23) (dC := 1) (bc1 := 0) (bc2 := 0) (c1 := 5) (c2 := 180) (as := [(4, 0), (0, 1)]) (asC := [(4, 0), (0, 1)]) (LN := [(0, (4, 0)), (1, (0, 2)), (2, (0, x2)), (3, (0, 0))]) (stN := []) (hsC := jpA_22) (v := (0, 0)) (st2 := [(0, 0)]) (jA_190_39 (d := 0)) (by rfl) (by rfl) (by decide +kernel) (by rfl) (by rfl) (by omega) (by omega) (by omega) (by omega) rfl ?_
  refine jT_xifT (pcN := 28) jI_243_23 rfl (by decide +kernel) rfl ?_
  refine jT_xaload_n (v := (4, 0)) (pcN := 29) jI_243_28 rfl rfl rfl ?_
  refine jT_xiload_n (v := (0, x2)) (pcN := 30) jI_243_29 rfl rfl rfl ?_
  refine jT_fR [0, 1, 2, 3, 4, 5, 6, 7, 8, 9, 10, 11, 12, 13, 14, 15] 22 (y := 202) (pcN := 33) (dC := 1) (bc1 := 0) (bc2 := 0) (c1 := 5) (c2 := 180) (as := [(4, 0), (0, x2)]) (asC := [(4, 0), (0, x2)]) (LN := [(0, (4, 0)), (1, (0, 2)), (2, (0, x2)), (3, (0, 0))]) (stN := []) (hsC := jpA_130) (v := (9, 0)) (st2 := []) (jA_202_41 (d := 0) (by omega)) (by rfl) (by rfl) (by decide +kernel) (by rfl) (by rfl) (by omega) (by omega) (by omega) (by omega) rfl ?_
  refine jT_xaload_n (v := (4, 0)) (pcN := 34) jI_243_33 rfl rfl rfl ?_
  refine jT_fA [0, 1, 2, 3, 4, 5, 6, 7, 8, 9, 10, 11, 12, 13, 14, 15, 16, 17, 18, 19, 20, 21] 22 (y := 209) (pcN := 37) (dC := 6) (bc1 := 5) (bc2 := 180) (c1 := 0) (c2 := 0) (as := [(4, 0)]) (asC := [(4, 0)]) (LN := [(0, (4, 0)), (1, (0, 2)), (2, (0, x2)), (3, (0, 0))]) (stN := []) (hsC := jpA_684) (ex := jpA_683) (v := (1, 0)) (st2 := [(1, 0)]) (hs2 := jpA_1685) (jA_209_159 (d := 0)) (by rfl) (by rfl) (by decide +kernel) (by rfl) (by rfl) (by omega) (by omega) (by omega) (by omega) rfl (by decide +kernel) ?_
  refine jT_xlstore (v := (1, 0)) (LN := [(4, (1, 0)), (0, (4, 0)), (1, (0, 2)), (2, (0, x2)), (3, (0, 0))]) (pcN := 39) jI_243_37 rfl rfl rfl rfl ?_
  refine jT_xaload_n (v := (4, 0)) (pcN := 40) jI_243_39 rfl rfl rfl ?_
  refine jT_xiload_n (v := (0, 2)) (pcN := 41) jI_243_40 rfl rfl rfl ?_
  refine jT_fR [0, 1, 2, 3, 4, 5, 6, 7, 8, 9, 10, 11, 12, 13, 14, 15] 27 (y := 244) (pcN := 44) (dC := 1) (bc1 := 0) (bc2 := 0) (c1 := 0) (c2 := 0) (as := [(4, 0), (0, 2)]) (asC := [(4, 0), (0, 2)]) (LN := [(4, (1, 0)), (0, (4, 0)), (1, (0, 2)), (2, (0, x2)), (3, (0, 0))]) (stN := []) (hsC := jpA_130) (v := (0, 1)) (st2 := [(0, 1)]) (jA_244_382 (d := 0)) (by rfl) (by rfl) (by decide +kernel) (by rfl) (by rfl) (by omega) (by omega) (by omega) (by omega) rfl ?_
  refine jT_xistore (v := (0, 1)) (LN := [(6, (0, 1)), (4, (1, 0)), (0, (4, 0)), (1, (0, 2)), (2, (0, x2)), (3, (0, 0))]) (pcN := 46) jI_243_44 rfl rfl rfl rfl ?_
  refine jT_xiload_n (v := (0, 0)) (pcN := 47) jI_243_46 rfl rfl rfl ?_
  refine jT_xifT (pcN := 73) jI_243_47 rfl (by decide +kernel) rfl ?_
  refine jT_xiload (v := (0, 1)) (pcN := 75) jI_243_73 rfl rfl rfl ?_
  refine jT_xifF (t := 87) (pcN := 78) jI_243_75 rfl (by decide +kernel) rfl rfl ?_
  refine jT_xaload_n (v := (4, 0)) (pcN := 79) jI_243_78 rfl rfl rfl ?_
  refine jT_xiload_n (v := (0, 2)) (pcN := 80) jI_243_79 rfl rfl rfl ?_
  refine jT_fR [0, 1, 2, 3, 4, 5, 6, 7, 8, 9, 10, 11, 12, 13, 14, 15] 27 (y := 245) (pcN := 83) (dC := 0) (bc1 := 0) (bc2 := 0) (c1 := 0) (c2 := 0) (as := [(4, 0), (0, 2)]) (asC := [(4, 0), (0, 2)]) (LN := [(6, (0, 1)), (4, (1, 0)), (0, (4, 0)), (1, (0, 2)), (2, (0, x2)), (3, (0, 0))]) (stN := []) (hsC := jpA_1519) (v := (0, 1)) (st2 := [(0, 1)]) (jA_245_379 (d := 0)) (by rfl) (by rfl) (by decide +kernel) (by rfl) (by rfl) (by omega) (by omega) (by omega) (by omega) rfl ?_
  refine jT_xiconst (k := 1) (pcN := 84) jI_243_83 rfl ?_
  refine jT_xicT (pcN := 91) jI_243_84 rfl (by decide +kernel) rfl ?_
  refine jT_xiconst (k := 0) (pcN := 92) jI_243_91 rfl ?_
  refine jT_xistore (v := (0, 0)) (LN := [(7, (0, 0)), (6, (0, 1)), (4, (1, 0)), (0, (4, 0)), (1, (0, 2)), (2, (0, x2)), (3, (0, 0))]) (pcN := 94) jI_243_92 rfl rfl rfl rfl ?_
  refine jT_xaload_n (v := (4, 0)) (pcN := 95) jI_243_94 rfl rfl rfl ?_
  refine jT_xiload (v := (0, 0)) (pcN := 97) jI_243_95 rfl rfl rfl ?_
  refine jT_xiconst (k := 2) (pcN := 98) jI_243_97 rfl ?_
  refine jT_fB [0, 1, 2, 3, 4, 5, 6, 7, 8, 9, 10, 11, 12, 13, 14, 15] 27 (y := 191) (pcN := 101) (dC := 0) (bc1 := 0) (bc2 := 0) (c1 := 0) (c2 := 0) (as := [(4, 0), (0, 0), (0, 2)]) (asC := [(4, 0), (0, 0), (0, 2)]) (LN := [(7, (0, 0)), (6, (0, 1)), (4, (1, 0)), (0, (4, 0)), (1, (0, 2)), (2, (0, x2)), (3, (0, 0))]) (stN := []) (hsC := jpA_22) (hsD := jpA_361) (v := (0, 1)) (st2 := [(0, 1)]) (hs2 := jpA_1693) (jA_191_99 (d := 0)) (by rfl) (by rfl) (by decide +kernel) (by rfl) (by rfl) (by omega) (by omega) (by omega) (by omega) rfl (by decide +kernel) ?_
  refine jT_xifT (pcN := 137) jI_243_101 rfl (by decide +kernel) rfl ?_
  refine jT_xiconst (k := 0) (pcN := 138) jI_243_137 rfl ?_
  exact jT_ret rfl (by decide) (by show 22 ≤ 27; decide) (by omega) (by omega) ⟨rfl, rfl, rfl⟩
def jpA_1704 : List JC := [jzA_5, (8, [(4, 12), (4, 13)], []), jgh, jgh, jgh, jgh, jgh, jgh, (101, [], [0, 0, 0, 0, 0, 0]), jgh, jgh, jzA_640, jgh, (101, [], [0, 0, 0, 0, 0, 0]), jzA_641, (117, [], [20, 21, 22, 23]), jgh, jgh, jgh, (4, [(4, 24), (1, 1)], []), jgh, jgh, jgh, (7, [(4, 25), (4, (-1)), (4, (-1))], []), (101, [], [0, 0, 0, 0, 0, 0]), (114, [], [19]), (101, [], [0, 0, 0, 0, 0, 0]), (4, [(4, 26), (1, 1)], [])]
def jpA_1705 : List JC := [jzA_5, (8, [(4, 12), (4, 13)], []), jgh, jgh, jgh, jgh, jgh, jgh, (101, [], [0, 0, 0, 0, 0, 0]), jgh, jgh, jzA_640, jgh, (101, [], [0, 0, 0, 0, 0, 0]), jzA_641, (117, [], [20, 21, 22, 23]), jgh, jgh, jgh, (4, [(4, 24), (1, 1)], []), jgh, jgh, jgh, (7, [(4, 25), (4, (-1)), (4, (-1))], []), (101, [], [0, 0, 0, 0, 0, 0]), (114, [], [19])]
theorem jA_128_426 {xs : List Int} {d : Nat} {x2 : Int} (h_x2 : 0 ≤ x2 ∧ x2 ≤ 7) : jT xs (d + 5) 128 26 0 [(0, (4, 0)), (1, (0, 3)), (2, (0, x2)), (3, (0, 0))] [] jpA_1705 3 14 (fun k v hsN => k = 1 ∧ v = (0, 3) ∧ hsN = jpA_1705 ++ [(101, [], [0, 0, 0, 0, 0, 0]), (4, [(4, 26), (1, 1)], [])]) := by
  refine jT_xaload_n (v := (4, 0)) (pcN := 1) jI_128_0 rfl rfl rfl ?_
  refine jT_xiload_n (v := (0, 3)) (pcN := 2) jI_128_1 rfl rfl rfl ?_
  refine jT_xiconst (k := 4) (pcN := 3) jI_128_2 rfl ?_
  refine jT_fR [0] 26 (y := 115) (pcN := 6) (dC := 0) (bc1 := 0) (bc2 := 0) (c1 := 3) (c2 := 14) (as := [(4, 0), (0, 3), (0, 4)]) (asC := [(4, 0), (0, 3), (0, 4)]) (LN := [(0, (4, 0)), (1, (0, 3)), (2, (0, x2)), (3, (0, 0))]) (stN := []) (hsC := [jgh]) (v := (9, 0)) (st2 := []) (jA_115_387 (d := 0)) (by rfl) (by rfl) (by decide +kernel) (by rfl) (by rfl) (by omega) (by omega) (by omega) (by omega) rfl ?_
  refine jT_xaload_n (v := (4, 0)) (pcN := 7) jI_128_6 rfl rfl rfl ?_
  refine jT_xiload_n (v := (0, x2)) (pcN := 8) jI_128_7 rfl rfl rfl ?_
  refine jT_xbipush (k := 8) (pcN := 10) jI_128_8 (by decide) rfl ?_
  refine jT_fR [0] 26 (y := 115) (pcN := 13) (dC := 0) (bc1 := 0) (bc2 := 0) (c1 := 3) (c2 := 14) (as := [(4, 0), (0, x2), (0, 8)]) (asC := [(4, 0), (0, x2), (0, 8)]) (LN := [(0, (4, 0)), (1, (0, 3)), (2, (0, x2)), (3, (0, 0))]) (stN := []) (hsC := [jgh]) (v := (9, 0)) (st2 := []) (jA_115_16 (d := 0) (by omega)) (by rfl) (by rfl) (by decide +kernel) (by rfl) (by rfl) (by omega) (by omega) (by omega) (by omega) rfl ?_
  refine jT_xaload_n (v := (4, 0)) (pcN := 14) jI_128_13 rfl rfl rfl ?_
  refine jT_xgetf (a := 0) (t := 1) (ci := 13) (fi := 11) (c := jzA_5) (v := (4, 11)) (pcN := 17) jI_128_14 rfl rfl rfl rfl rfl rfl rfl ?_
  refine jT_xiload_n (v := (0, 3)) (pcN := 18) jI_128_17 rfl rfl rfl ?_
  refine jT_fR [11, 14, 15, 16, 17, 18, 20, 21, 22, 23] 26 (y := 56) (pcN := 21) (dC := 0) (bc1 := 0) (bc2 := 0) (c1 := 3) (c2 := 14) (as := [(4, 11), (0, 3)]) (asC := [(4, 0), (0, 3)]) (LN := [(0, (4, 0)), (1, (0, 3)), (2, (0, x2)), (3, (0, 0))]) (stN := []) (hsC := jpA_1446) (v := (4, 9)) (st2 := [(4, 23)]) (jA_56_388 (d := 0)) (by rfl) (by rfl) (by decide +kernel) (by rfl) (by rfl) (by omega) (by omega) (by omega) (by omega) rfl ?_
  refine jT_xastore (v := (4, 23)) (LN := [(4, (4, 23)), (0, (4, 0)), (1, (0, 3)), (2, (0, x2)), (3, (0, 0))]) (pcN := 23) jI_128_21 rfl rfl rfl rfl ?_
  refine jT_xaload_n (v := (4, 0)) (pcN := 24) jI_128_23 rfl rfl rfl ?_
  refine jT_xaload_n (v := (4, 0)) (pcN := 25) jI_128_24 rfl rfl rfl ?_
  refine jT_xgetf (a := 0) (t := 1) (ci := 13) (fi := 11) (c := jzA_5) (v := (4, 11)) (pcN := 28) jI_128_25 rfl rfl rfl rfl rfl rfl rfl ?_
  refine jT_xiload_n (v := (0, x2)) (pcN := 29) jI_128_28 rfl rfl rfl ?_
  refine jT_fR [11, 14, 15, 16, 17, 18, 19] 26 (y := 57) (pcN := 32) (dC := 0) (bc1 := 0) (bc2 := 0) (c1 := 3) (c2 := 14) (as := [(4, 11), (0, x2)]) (asC := [(4, 0), (0, x2)]) (LN := [(4, (4, 23)), (0, (4, 0)), (1, (0, 3)), (2, (0, x2)), (3, (0, 0))]) (stN := [(4, 0)]) (hsC := jpA_47) (v := (4, 6)) (st2 := [(4, 19), (4, 0)]) (jA_57_24 (d := 0) (by omega)) (by rfl) (by rfl) (by decide +kernel) (by rfl) (by rfl) (by omega) (by omega) (by omega) (by omega) rfl ?_
  refine jT_xiconst (k := 1) (pcN := 33) jI_128_32 rfl ?_
  refine jT_fA [0, 19, 1, 2, 3, 4, 5, 6, 7, 8, 9, 10, 11, 24, 12, 13] 26 (y := 127) (pcN := 36) (dC := 3) (bc1 := 2) (bc2 := 8) (c1 := 1) (c2 := 6) (as := [(4, 0), (4, 19), (0, 1)]) (asC := [(4, 0), (4, 1), (0, 1)]) (LN := [(4, (4, 23)), (0, (4, 0)), (1, (0, 3)), (2, (0, x2)), (3, (0, 0))]) (stN := []) (hsC := jpA_1447) (ex := [(101, [], [0, 0, 0, 0, 0, 0]), (4, [(4, 16), (1, 1)], [])]) (v := (4, 17)) (st2 := [(4, 27)]) (hs2 := jpA_1704) (jA_127_323 (d := 0)) (by rfl) (by rfl) (by decide +kernel) (by rfl) (by rfl) (by omega) (by omega) (by omega) (by omega) rfl (by decide +kernel) ?_
  refine jT_xastore (v := (4, 27)) (LN := [(5, (4, 27)), (4, (4, 23)), (0, (4, 0)), (1, (0, 3)), (2, (0, x2)), (3, (0, 0))]) (pcN := 38) jI_128_36 rfl rfl rfl rfl ?_
  refine jT_xaload (v := (4, 23)) (pcN := 40) jI_128_38 rfl rfl rfl ?_
  refine jT_xaload (v := (4, 27)) (pcN := 42) jI_128_40 rfl rfl rfl ?_
  refine jT_xaload_n (v := (4, 0)) (pcN := 43) jI_128_42 rfl rfl rfl ?_
  refine jT_xgetf (a := 0) (t := 1) (ci := 13) (fi := 0) (c := jzA_5) (v := (4, 1)) (pcN := 46) jI_128_43 rfl rfl rfl rfl rfl rfl rfl ?_
  refine jT_fR [23, 27, 1, 25, 26, 12, 13, 19, 24] 28 (y := 33) (pcN := 49) (dC := 4) (bc1 := 0) (bc2 := 0) (c1 := 1) (c2 := 6) (as := [(4, 23), (4, 27), (4, 1)]) (asC := [(4, 0), (4, 1), (4, 2)]) (LN := [(5, (4, 27)), (4, (4, 23)), (0, (4, 0)), (1, (0, 3)), (2, (0, x2)), (3, (0, 0))]) (stN := []) (hsC := jpA_1451) (v := (0, 0)) (st2 := [(0, 0)]) (jA_33_328 (d := 0)) (by rfl) (by rfl) (by decide +kernel) (by rfl) (by rfl) (by omega) (by omega) (by omega) (by omega) rfl ?_
  refine jT_xistore (v := (0, 0)) (LN := [(6, (0, 0)), (5, (4, 27)), (4, (4, 23)), (0, (4, 0)), (1, (0, 3)), (2, (0, x2)), (3, (0, 0))]) (pcN := 51) jI_128_49 rfl rfl rfl rfl ?_
  refine jT_xiload_n (v := (0, 0)) (pcN := 52) jI_128_51 rfl rfl rfl ?_
  refine jT_xifF (t := 79) (pcN := 55) jI_128_52 rfl (by decide +kernel) rfl rfl ?_
  refine jT_xiload (v := (0, 0)) (pcN := 57) jI_128_55 rfl rfl rfl ?_
  refine jT_xifF (t := 79) (pcN := 60) jI_128_57 rfl (by decide +kernel) rfl rfl ?_
  refine jT_xaload (v := (4, 23)) (pcN := 62) jI_128_60 rfl rfl rfl ?_
  refine jT_fR [23, 25, 19] 28 (y := 29) (pcN := 65) (dC := 0) (bc1 := 0) (bc2 := 0) (c1 := 1) (c2 := 6) (as := [(4, 23)]) (asC := [(4, 0)]) (LN := [(6, (0, 0)), (5, (4, 27)), (4, (4, 23)), (0, (4, 0)), (1, (0, 3)), (2, (0, x2)), (3, (0, 0))]) (stN := []) (hsC := [(7, [(4, 1), (4, (-1)), (4, (-1))], []), (114, [], [2]), jgh]) (v := (0, 1)) (st2 := [(0, 1)]) (jA_29_416 (d := 0)) (by rfl) (by rfl) (by decide +kernel) (by rfl) (by rfl) (by omega) (by omega) (by omega) (by omega) rfl ?_
  refine jT_xiconst (k := 1) (pcN := 66) jI_128_65 rfl ?_
  refine jT_xicF (t := 79) (pcN := 69) jI_128_66 rfl (by decide +kernel) rfl rfl ?_
  exact jT_ret (c1 := 1) (s1 := 6) rfl (by decide) (by show 26 ≤ 28; decide) (by omega) (by omega) ⟨rfl, rfl, rfl⟩
def jpA_1706 : List JC := [jzA_14, jgh, (8, [(4, 13), (4, 14)], []), jgh, jgh, jgh, jgh, jgh, jgh, (101, [], [0, 0, 0, 0, 0, 0]), jgh, jgh, jzA_659, jgh, (101, [], [0, 0, 0, 0, 0, 0]), jzA_660, (117, [], [21, 22, 23, 24]), jgh, jgh, jgh, (4, [(4, 25), (1, 1)], []), jgh, jgh, jgh, (7, [(4, 26), (4, (-1)), (4, (-1))], []), (101, [], [0, 0, 0, 0, 0, 0]), (114, [], [20]), (101, [], [0, 0, 0, 0, 0, 0]), (4, [(4, 27), (1, 1)], [])]
def jpA_1707 : List JC := [jzA_14, jgh, (8, [(4, 13), (4, 14)], []), jgh, jgh, jgh, jgh, jgh, jgh, (101, [], [0, 0, 0, 0, 0, 0]), jgh, jgh, jzA_659, jgh, (101, [], [0, 0, 0, 0, 0, 0]), jzA_660, (117, [], [21, 22, 23, 24]), jgh, jgh, jgh, (4, [(4, 25), (1, 1)], []), jgh, jgh, jgh, (7, [(4, 26), (4, (-1)), (4, (-1))], []), (101, [], [0, 0, 0, 0, 0, 0]), (114, [], [20])]
theorem jA_336_427 {xs : List Int} {d : Nat} {x2 : Int} (h_x2 : 0 ≤ x2 ∧ x2 ≤ 7) : jT xs (d + 6) 336 27 0 [(0, (4, 0)), (1, (0, 3)), (2, (0, x2)), (3, (0, 0)), (4, (4, 1))] [] jpA_1707 3 14 (fun k v hsN => k = 0 ∧ v = (0, 2) ∧ hsN = jpA_1707 ++ [(101, [], [0, 0, 0, 0, 0, 0]), (4, [(4, 27), (1, 1)], [])]) := by
  refine jT_xaload (v := (4, 1)) (pcN := 2) jI_336_0 rfl rfl rfl ?_
  refine jT_xiconst (k := 0) (pcN := 3) jI_336_2 rfl ?_
  refine jT_xaload_n (v := (4, 0)) (pcN := 4) jI_336_3 rfl rfl rfl ?_
  refine jT_xiload_n (v := (0, 3)) (pcN := 5) jI_336_4 rfl rfl rfl ?_
  refine jT_xiload_n (v := (0, x2)) (pcN := 6) jI_336_5 rfl rfl rfl ?_
  refine jT_xiload_n (v := (0, 0)) (pcN := 7) jI_336_6 rfl rfl rfl ?_
  exact jT_fY [0, 2, 3, 4, 5, 6, 7, 8, 9, 10, 11, 12, 13, 14, 15, 16, 17, 18, 19, 20, 21, 22, 23, 24, 25, 26] 27 (y := 128) (pcN := 10) (dC := 5) (bc1 := 3) (bc2 := 14) (as := [(4, 0), (0, 3), (0, x2), (0, 0)]) (asC := [(4, 0), (0, 3), (0, x2), (0, 0)]) (LN := [(0, (4, 0)), (1, (0, 3)), (2, (0, x2)), (3, (0, 0)), (4, (4, 1))]) (stN := [(0, 0), (4, 1)]) (hsC := jpA_1705) (hsD := jpA_1704) (hs2 := jpA_1706) (e := 3) (jA_128_426 (d := 0) (by omega)) (by rfl) (by rfl) (by decide +kernel) (by rfl) (by rfl) (by omega) (by omega) (by omega) (by omega) (by decide +kernel) (show _ from ⟨rfl, rfl, rfl⟩)
theorem jA_243_428 {xs : List Int} {d : Nat} {x2 : Int} (h_x2 : 0 ≤ x2 ∧ x2 ≤ 7) : jT xs (d + 7) 243 22 0 [(0, (4, 0)), (1, (0, 3)), (2, (0, x2)), (3, (0, 0))] [] jpA_1695 5 180 (fun k v hsN => k = 0 ∧ v = (0, 0) ∧ hsN = jpA_1693) := by
  refine jT_xaload_n (v := (4, 0)) (pcN := 1) jI_243_0 rfl rfl rfl ?_
  refine jT_xiload_n (v := (0, 3)) (pcN := 2) jI_243_1 rfl rfl rfl ?_
  refine jT_fR [] 22 (y := 238) (pcN := 5) (dC := 1) (bc1 := 0) (bc2 := 0) (c1 := 5) (c2 := 180) (as := [(0, 3)]) (asC := [(0, 3)]) (LN := [(0, (4, 0)), (1, (0, 3)), (2, (0, x2)), (3, (0, 0))]) (stN := [(4, 0)]) (hsC := []) (v := (0, 1)) (st2 := [(0, 1), (4, 0)]) (jA_238_393 (d := 0)) (by rfl) (by rfl) (by decide +kernel) (by rfl) (by rfl) (by omega) (by omega) (by omega) (by omega) rfl ?_
  refine jT_xifF (t := 19) (pcN := 8) jI_243_5 rfl (by decide +kernel) rfl rfl ?_
  refine jT_xiload_n (v := (0, x2)) (pcN := 9) jI_243_8 rfl rfl rfl ?_
  refine jT_fR [] 22 (y := 188) (pcN := 12) (dC := 1) (bc1 := 0) (bc2 := 0) (c1 := 5) (c2 := 180) (as := [(0, x2)]) (asC := [(0, x2)]) (LN := [(0, (4, 0)), (1, (0, 3)), (2, (0, x2)), (3, (0, 0))]) (stN := [(4, 0)]) (hsC := []) (v := (0, 1)) (st2 := [(0, 1), (4, 0)]) (jA_188_20 (d := 0) (by omega)) (by rfl) (by rfl) (by decide +kernel) (by rfl) (by rfl) (by omega) (by omega) (by omega) (by omega) rfl ?_
  refine jT_xifF (t := 19) (pcN := 15) jI_243_12 rfl (by decide +kernel) rfl rfl ?_
  refine jT_xiconst (k := 1) (pcN := 16) jI_243_15 rfl ?_
  refine jT_xgoto (pcN := 20) jI_243_16 rfl ?_
  refine jT_fR [0, 1, 2, 3, 4, 5, 6, 7, 8, 9, 10, 11, 12, 13, 14, 15] 22 (y := 190) (pcN := 23) (dC := 1) (bc1 := 0) (bc2 := 0) (c1 := 5) (c2 := 180) (as := [(4, 0), (0, 1)]) (asC := [(4, 0), (0, 1)]) (LN := [(0, (4, 0)), (1, (0, 3)), (2, (0, x2)), (3, (0, 0))]) (stN := []) (hsC := jpA_22) (v := (0, 0)) (st2 := [(0, 0)]) (jA_190_39 (d := 0)) (by rfl) (by rfl) (by decide +kernel) (by rfl) (by rfl) (by omega) (by omega) (by omega) (by omega) rfl ?_
  refine jT_xifT (pcN := 28) jI_243_23 rfl (by decide +kernel) rfl ?_
  refine jT_xaload_n (v := (4, 0)) (pcN := 29) jI_243_28 rfl rfl rfl ?_
  refine jT_xiload_n (v := (0, x2)) (pcN := 30) jI_243_29 rfl rfl rfl ?_
  refine jT_fR [0, 1, 2, 3, 4, 5, 6, 7, 8, 9, 10, 11, 12, 13, 14, 15] 22 (y := 202) (pcN := 33) (dC := 1) (bc1 := 0) (bc2 := 0) (c1 := 5) (c2 := 180) (as := [(4, 0), (0, x2)]) (asC := [(4, 0), (0, x2)]) (LN := [(0, (4, 0)), (1, (0, 3)), (2, (0, x2)), (3, (0, 0))]) (stN := []) (hsC := jpA_130) (v := (9, 0)) (st2 := []) (jA_202_41 (d := 0) (by omega)) (by rfl) (by rfl) (by decide +kernel) (by rfl) (by rfl) (by omega) (by omega) (by omega) (by omega) rfl ?_
  refine jT_xaload_n (v := (4, 0)) (pcN := 34) jI_243_33 rfl rfl rfl ?_
  refine jT_fA [0, 1, 2, 3, 4, 5, 6, 7, 8, 9, 10, 11, 12, 13, 14, 15, 16, 17, 18, 19, 20, 21] 22 (y := 209) (pcN := 37) (dC := 6) (bc1 := 5) (bc2 := 180) (c1 := 0) (c2 := 0) (as := [(4, 0)]) (asC := [(4, 0)]) (LN := [(0, (4, 0)), (1, (0, 3)), (2, (0, x2)), (3, (0, 0))]) (stN := []) (hsC := jpA_684) (ex := jpA_683) (v := (1, 0)) (st2 := [(1, 0)]) (hs2 := jpA_1685) (jA_209_159 (d := 0)) (by rfl) (by rfl) (by decide +kernel) (by rfl) (by rfl) (by omega) (by omega) (by omega) (by omega) rfl (by decide +kernel) ?_
  refine jT_xlstore (v := (1, 0)) (LN := [(4, (1, 0)), (0, (4, 0)), (1, (0, 3)), (2, (0, x2)), (3, (0, 0))]) (pcN := 39) jI_243_37 rfl rfl rfl rfl ?_
  refine jT_xaload_n (v := (4, 0)) (pcN := 40) jI_243_39 rfl rfl rfl ?_
  refine jT_xiload_n (v := (0, 3)) (pcN := 41) jI_243_40 rfl rfl rfl ?_
  refine jT_fR [0, 1, 2, 3, 4, 5, 6, 7, 8, 9, 10, 11, 12, 13, 14, 15] 27 (y := 244) (pcN := 44) (dC := 1) (bc1 := 0) (bc2 := 0) (c1 := 0) (c2 := 0) (as := [(4, 0), (0, 3)]) (asC := [(4, 0), (0, 3)]) (LN := [(4, (1, 0)), (0, (4, 0)), (1, (0, 3)), (2, (0, x2)), (3, (0, 0))]) (stN := []) (hsC := jpA_130) (v := (0, 1)) (st2 := [(0, 1)]) (jA_244_397 (d := 0)) (by rfl) (by rfl) (by decide +kernel) (by rfl) (by rfl) (by omega) (by omega) (by omega) (by omega) rfl ?_
  refine jT_xistore (v := (0, 1)) (LN := [(6, (0, 1)), (4, (1, 0)), (0, (4, 0)), (1, (0, 3)), (2, (0, x2)), (3, (0, 0))]) (pcN := 46) jI_243_44 rfl rfl rfl rfl ?_
  refine jT_xiload_n (v := (0, 0)) (pcN := 47) jI_243_46 rfl rfl rfl ?_
  refine jT_xifT (pcN := 73) jI_243_47 rfl (by decide +kernel) rfl ?_
  refine jT_xiload (v := (0, 1)) (pcN := 75) jI_243_73 rfl rfl rfl ?_
  refine jT_xifF (t := 87) (pcN := 78) jI_243_75 rfl (by decide +kernel) rfl rfl ?_
  refine jT_xaload_n (v := (4, 0)) (pcN := 79) jI_243_78 rfl rfl rfl ?_
  refine jT_xiload_n (v := (0, 3)) (pcN := 80) jI_243_79 rfl rfl rfl ?_
  refine jT_fR [0, 1, 2, 3, 4, 5, 6, 7, 8, 9, 10, 11, 12, 13, 14, 15] 27 (y := 245) (pcN := 83) (dC := 0) (bc1 := 0) (bc2 := 0) (c1 := 0) (c2 := 0) (as := [(4, 0), (0, 3)]) (asC := [(4, 0), (0, 3)]) (LN := [(6, (0, 1)), (4, (1, 0)), (0, (4, 0)), (1, (0, 3)), (2, (0, x2)), (3, (0, 0))]) (stN := []) (hsC := jpA_1519) (v := (0, 1)) (st2 := [(0, 1)]) (jA_245_394 (d := 0)) (by rfl) (by rfl) (by decide +kernel) (by rfl) (by rfl) (by omega) (by omega) (by omega) (by omega) rfl ?_
  refine jT_xiconst (k := 1) (pcN := 84) jI_243_83 rfl ?_
  refine jT_xicT (pcN := 91) jI_243_84 rfl (by decide +kernel) rfl ?_
  refine jT_xiconst (k := 0) (pcN := 92) jI_243_91 rfl ?_
  refine jT_xistore (v := (0, 0)) (LN := [(7, (0, 0)), (6, (0, 1)), (4, (1, 0)), (0, (4, 0)), (1, (0, 3)), (2, (0, x2)), (3, (0, 0))]) (pcN := 94) jI_243_92 rfl rfl rfl rfl ?_
  refine jT_xaload_n (v := (4, 0)) (pcN := 95) jI_243_94 rfl rfl rfl ?_
  refine jT_xiload (v := (0, 0)) (pcN := 97) jI_243_95 rfl rfl rfl ?_
  refine jT_xiconst (k := 2) (pcN := 98) jI_243_97 rfl ?_
  refine jT_fB [0, 1, 2, 3, 4, 5, 6, 7, 8, 9, 10, 11, 12, 13, 14, 15] 27 (y := 191) (pcN := 101) (dC := 0) (bc1 := 0) (bc2 := 0) (c1 := 0) (c2 := 0) (as := [(4, 0), (0, 0), (0, 2)]) (asC := [(4, 0), (0, 0), (0, 2)]) (LN := [(7, (0, 0)), (6, (0, 1)), (4, (1, 0)), (0, (4, 0)), (1, (0, 3)), (2, (0, x2)), (3, (0, 0))]) (stN := []) (hsC := jpA_22) (hsD := jpA_361) (v := (0, 1)) (st2 := [(0, 1)]) (hs2 := jpA_1693) (jA_191_99 (d := 0)) (by rfl) (by rfl) (by decide +kernel) (by rfl) (by rfl) (by omega) (by omega) (by omega) (by omega) rfl (by decide +kernel) ?_
  refine jT_xifT (pcN := 137) jI_243_101 rfl (by decide +kernel) rfl ?_
  refine jT_xiconst (k := 0) (pcN := 138) jI_243_137 rfl ?_
  exact jT_ret rfl (by decide) (by show 22 ≤ 27; decide) (by omega) (by omega) ⟨rfl, rfl, rfl⟩
theorem jA_128_429 {xs : List Int} {d : Nat} {x1 x2 : Int} (h_x1 : 0 ≤ x1 ∧ x1 ≤ 3) (h_x2 : 8 ≤ x2 ∧ x2 ≤ 2147483647) : jT xs (d + 1) 128 12 0 [(0, (4, 0)), (1, (0, x1)), (2, (0, x2)), (3, (0, 0))] [] jpA_6 1 6 (fun k v hsN => k = 1 ∧ v = (0, 0) ∧ hsN = jpA_6 ++ []) := by
  refine jT_xaload_n (v := (4, 0)) (pcN := 1) jI_128_0 rfl rfl rfl ?_
  refine jT_xiload_n (v := (0, x1)) (pcN := 2) jI_128_1 rfl rfl rfl ?_
  refine jT_xiconst (k := 4) (pcN := 3) jI_128_2 rfl ?_
  refine jT_fR [0] 12 (y := 115) (pcN := 6) (dC := 0) (bc1 := 0) (bc2 := 0) (c1 := 1) (c2 := 6) (as := [(4, 0), (0, x1), (0, 4)]) (asC := [(4, 0), (0, x1), (0, 4)]) (LN := [(0, (4, 0)), (1, (0, x1)), (2, (0, x2)), (3, (0, 0))]) (stN := []) (hsC := [jgh]) (v := (9, 0)) (st2 := []) (jA_115_315 (d := 0) (by omega)) (by rfl) (by rfl) (by decide +kernel) (by rfl) (by rfl) (by omega) (by omega) (by omega) (by omega) rfl ?_
  refine jT_xaload_n (v := (4, 0)) (pcN := 7) jI_128_6 rfl rfl rfl ?_
  refine jT_xiload_n (v := (0, x2)) (pcN := 8) jI_128_7 rfl rfl rfl ?_
  refine jT_xbipush (k := 8) (pcN := 10) jI_128_8 (by decide) rfl ?_
  exact jT_fX [0] 12 (y := 115) (pcN := 13) (dC := 0) (bc1 := 1) (bc2 := 6) (as := [(4, 0), (0, x2), (0, 8)]) (asC := [(4, 0), (0, x2), (0, 8)]) (LN := [(0, (4, 0)), (1, (0, x1)), (2, (0, x2)), (3, (0, 0))]) (stN := []) (hsC := [jgh]) (e := 0) (jA_115_60 (d := 0) (by omega)) (by rfl) (by rfl) (by decide +kernel) (by rfl) (by rfl) (by omega) (by omega) (by omega) (by omega) ⟨rfl, ⟨rfl, rfl, rfl⟩⟩
theorem jA_336_430 {xs : List Int} {d : Nat} {x1 x2 : Int} (h_x1 : 0 ≤ x1 ∧ x1 ≤ 3) (h_x2 : 8 ≤ x2 ∧ x2 ≤ 2147483647) : jT xs (d + 2) 336 13 0 [(0, (4, 0)), (1, (0, x1)), (2, (0, x2)), (3, (0, 0)), (4, (4, 1))] [] jpA_15 1 6 (fun k v hsN => k = 0 ∧ v = (0, 1) ∧ hsN = jpA_15 ++ []) := by
  refine jT_xaload (v := (4, 1)) (pcN := 2) jI_336_0 rfl rfl rfl ?_
  refine jT_xiconst (k := 0) (pcN := 3) jI_336_2 rfl ?_
  refine jT_xaload_n (v := (4, 0)) (pcN := 4) jI_336_3 rfl rfl rfl ?_
  refine jT_xiload_n (v := (0, x1)) (pcN := 5) jI_336_4 rfl rfl rfl ?_
  refine jT_xiload_n (v := (0, x2)) (pcN := 6) jI_336_5 rfl rfl rfl ?_
  refine jT_xiload_n (v := (0, 0)) (pcN := 7) jI_336_6 rfl rfl rfl ?_
  exact jT_fX [0, 2, 3, 4, 5, 6, 7, 8, 9, 10, 11, 12] 13 (y := 128) (pcN := 10) (dC := 1) (bc1 := 1) (bc2 := 6) (as := [(4, 0), (0, x1), (0, x2), (0, 0)]) (asC := [(4, 0), (0, x1), (0, x2), (0, 0)]) (LN := [(0, (4, 0)), (1, (0, x1)), (2, (0, x2)), (3, (0, 0)), (4, (4, 1))]) (stN := [(0, 0), (4, 1)]) (hsC := jpA_6) (e := 0) (jA_128_429 (d := 0) (by omega) (by omega)) (by rfl) (by rfl) (by decide +kernel) (by rfl) (by rfl) (by omega) (by omega) (by omega) (by omega) (show _ from ⟨rfl, rfl, rfl⟩)
theorem jA_243_431 {xs : List Int} {d : Nat} {x1 x2 : Int} (h_x1 : 0 ≤ x1 ∧ x1 ≤ 3) (h_x2 : 8 ≤ x2 ∧ x2 ≤ 2147483647) : jT xs (d + 2) 243 16 0 [(0, (4, 0)), (1, (0, x1)), (2, (0, x2)), (3, (0, 0))] [] jpA_22 0 0 (fun k v hsN => k = 0 ∧ v = (0, 0) ∧ hsN = jpA_20) := by
  refine jT_xaload_n (v := (4, 0)) (pcN := 1) jI_243_0 rfl rfl rfl ?_
  refine jT_xiload_n (v := (0, x1)) (pcN := 2) jI_243_1 rfl rfl rfl ?_
  refine jT_fR [] 16 (y := 238) (pcN := 5) (dC := 1) (bc1 := 0) (bc2 := 0) (c1 := 0) (c2 := 0) (as := [(0, x1)]) (asC := [(0, x1)]) (LN := [(0, (4, 0)), (1, (0, x1)), (2, (0, x2)), (3, (0, 0))]) (stN := [(4, 0)]) (hsC := []) (v := (0, 1)) (st2 := [(0, 1), (4, 0)]) (jA_238_318 (d := 0) (by omega)) (by rfl) (by rfl) (by decide +kernel) (by rfl) (by rfl) (by omega) (by omega) (by omega) (by omega) rfl ?_
  refine jT_xifF (t := 19) (pcN := 8) jI_243_5 rfl (by decide +kernel) rfl rfl ?_
  refine jT_xiload_n (v := (0, x2)) (pcN := 9) jI_243_8 rfl rfl rfl ?_
  refine jT_fR [] 16 (y := 188) (pcN := 12) (dC := 1) (bc1 := 0) (bc2 := 0) (c1 := 0) (c2 := 0) (as := [(0, x2)]) (asC := [(0, x2)]) (LN := [(0, (4, 0)), (1, (0, x1)), (2, (0, x2)), (3, (0, 0))]) (stN := [(4, 0)]) (hsC := []) (v := (0, 0)) (st2 := [(0, 0), (4, 0)]) (jA_188_63 (d := 0) (by omega)) (by rfl) (by rfl) (by decide +kernel) (by rfl) (by rfl) (by omega) (by omega) (by omega) (by omega) rfl ?_
  refine jT_xifT (pcN := 19) jI_243_12 rfl (by decide +kernel) rfl ?_
  refine jT_xiconst (k := 0) (pcN := 20) jI_243_19 rfl ?_
  refine jT_fB [0, 1, 2, 3, 4, 5, 6, 7, 8, 9, 10, 11, 12, 13, 14, 15] 16 (y := 190) (pcN := 23) (dC := 1) (bc1 := 0) (bc2 := 0) (c1 := 0) (c2 := 0) (as := [(4, 0), (0, 0)]) (asC := [(4, 0), (0, 0)]) (LN := [(0, (4, 0)), (1, (0, x1)), (2, (0, x2)), (3, (0, 0))]) (stN := []) (hsC := jpA_22) (hsD := jpA_20) (v := (0, 1)) (st2 := [(0, 1)]) (hs2 := jpA_20) (jA_190_6 (d := 0)) (by rfl) (by rfl) (by decide +kernel) (by rfl) (by rfl) (by omega) (by omega) (by omega) (by omega) rfl (by decide +kernel) ?_
  refine jT_xifF (t := 28) (pcN := 26) jI_243_23 rfl (by decide +kernel) rfl rfl ?_
  refine jT_xiconst (k := 0) (pcN := 27) jI_243_26 rfl ?_
  exact jT_ret rfl (by decide) (by show 16 ≤ 16; decide) (by omega) (by omega) ⟨rfl, rfl, rfl⟩
theorem jA_128_432 {xs : List Int} {d : Nat} {x1 x2 : Int} (h_x1 : 4 ≤ x1 ∧ x1 ≤ 2147483647) (h_x2 : (-2147483648) ≤ x2 ∧ x2 ≤ 2147483647) : jT xs (d + 1) 128 12 0 [(0, (4, 0)), (1, (0, x1)), (2, (0, x2)), (3, (0, 0))] [] jpA_6 1 6 (fun k v hsN => k = 1 ∧ v = (0, 0) ∧ hsN = jpA_6 ++ []) := by
  refine jT_xaload_n (v := (4, 0)) (pcN := 1) jI_128_0 rfl rfl rfl ?_
  refine jT_xiload_n (v := (0, x1)) (pcN := 2) jI_128_1 rfl rfl rfl ?_
  refine jT_xiconst (k := 4) (pcN := 3) jI_128_2 rfl ?_
  exact jT_fX [0] 12 (y := 115) (pcN := 6) (dC := 0) (bc1 := 1) (bc2 := 6) (as := [(4, 0), (0, x1), (0, 4)]) (asC := [(4, 0), (0, x1), (0, 4)]) (LN := [(0, (4, 0)), (1, (0, x1)), (2, (0, x2)), (3, (0, 0))]) (stN := []) (hsC := [jgh]) (e := 0) (jA_115_405 (d := 0) (by omega)) (by rfl) (by rfl) (by decide +kernel) (by rfl) (by rfl) (by omega) (by omega) (by omega) (by omega) ⟨rfl, ⟨rfl, rfl, rfl⟩⟩
theorem jA_336_433 {xs : List Int} {d : Nat} {x1 x2 : Int} (h_x1 : 4 ≤ x1 ∧ x1 ≤ 2147483647) (h_x2 : (-2147483648) ≤ x2 ∧ x2 ≤ 2147483647) : jT xs (d + 2) 336 13 0 [(0, (4, 0)), (1, (0, x1)), (2, (0, x2)), (3, (0, 0)), (4, (4, 1))] [] jpA_15 1 6 (fun k v hsN => k = 0 ∧ v = (0, 1) ∧ hsN = jpA_15 ++ []) := by
  refine jT_xaload (v := (4, 1)) (pcN := 2) jI_336_0 rfl rfl rfl ?_
  refine jT_xiconst (k := 0) (pcN := 3) jI_336_2 rfl ?_
  refine jT_xaload_n (v := (4, 0)) (pcN := 4) jI_336_3 rfl rfl rfl ?_
  refine jT_xiload_n (v := (0, x1)) (pcN := 5) jI_336_4 rfl rfl rfl ?_
  refine jT_xiload_n (v := (0, x2)) (pcN := 6) jI_336_5 rfl rfl rfl ?_
  refine jT_xiload_n (v := (0, 0)) (pcN := 7) jI_336_6 rfl rfl rfl ?_
  exact jT_fX [0, 2, 3, 4, 5, 6, 7, 8, 9, 10, 11, 12] 13 (y := 128) (pcN := 10) (dC := 1) (bc1 := 1) (bc2 := 6) (as := [(4, 0), (0, x1), (0, x2), (0, 0)]) (asC := [(4, 0), (0, x1), (0, x2), (0, 0)]) (LN := [(0, (4, 0)), (1, (0, x1)), (2, (0, x2)), (3, (0, 0)), (4, (4, 1))]) (stN := [(0, 0), (4, 1)]) (hsC := jpA_6) (e := 0) (jA_128_432 (d := 0) (by omega) (by omega)) (by rfl) (by rfl) (by decide +kernel) (by rfl) (by rfl) (by omega) (by omega) (by omega) (by omega) (show _ from ⟨rfl, rfl, rfl⟩)
theorem jA_243_434 {xs : List Int} {d : Nat} {x1 x2 : Int} (h_x1 : 4 ≤ x1 ∧ x1 ≤ 2147483647) (h_x2 : (-2147483648) ≤ x2 ∧ x2 ≤ 2147483647) : jT xs (d + 2) 243 16 0 [(0, (4, 0)), (1, (0, x1)), (2, (0, x2)), (3, (0, 0))] [] jpA_22 0 0 (fun k v hsN => k = 0 ∧ v = (0, 0) ∧ hsN = jpA_20) := by
  refine jT_xaload_n (v := (4, 0)) (pcN := 1) jI_243_0 rfl rfl rfl ?_
  refine jT_xiload_n (v := (0, x1)) (pcN := 2) jI_243_1 rfl rfl rfl ?_
  refine jT_fR [] 16 (y := 238) (pcN := 5) (dC := 1) (bc1 := 0) (bc2 := 0) (c1 := 0) (c2 := 0) (as := [(0, x1)]) (asC := [(0, x1)]) (LN := [(0, (4, 0)), (1, (0, x1)), (2, (0, x2)), (3, (0, 0))]) (stN := [(4, 0)]) (hsC := []) (v := (0, 0)) (st2 := [(0, 0), (4, 0)]) (jA_238_408 (d := 0) (by omega)) (by rfl) (by rfl) (by decide +kernel) (by rfl) (by rfl) (by omega) (by omega) (by omega) (by omega) rfl ?_
  refine jT_xifT (pcN := 19) jI_243_5 rfl (by decide +kernel) rfl ?_
  refine jT_xiconst (k := 0) (pcN := 20) jI_243_19 rfl ?_
  refine jT_fB [0, 1, 2, 3, 4, 5, 6, 7, 8, 9, 10, 11, 12, 13, 14, 15] 16 (y := 190) (pcN := 23) (dC := 1) (bc1 := 0) (bc2 := 0) (c1 := 0) (c2 := 0) (as := [(4, 0), (0, 0)]) (asC := [(4, 0), (0, 0)]) (LN := [(0, (4, 0)), (1, (0, x1)), (2, (0, x2)), (3, (0, 0))]) (stN := []) (hsC := jpA_22) (hsD := jpA_20) (v := (0, 1)) (st2 := [(0, 1)]) (hs2 := jpA_20) (jA_190_6 (d := 0)) (by rfl) (by rfl) (by decide +kernel) (by rfl) (by rfl) (by omega) (by omega) (by omega) (by omega) rfl (by decide +kernel) ?_
  refine jT_xifF (t := 28) (pcN := 26) jI_243_23 rfl (by decide +kernel) rfl rfl ?_
  refine jT_xiconst (k := 0) (pcN := 27) jI_243_26 rfl ?_
  exact jT_ret rfl (by decide) (by show 16 ≤ 16; decide) (by omega) (by omega) ⟨rfl, rfl, rfl⟩
theorem jI_379_1063 : jmI (jm 379) 1063 = (.aload_n 1, 1) := by rfl
theorem jI_379_1064 : jmI (jm 379) 1064 = (.aload_n 0, 1) := by rfl
theorem jI_379_1065 : jmI (jm 379) 1065 = (.iload 5, 2) := by rfl
theorem jI_379_1067 : jmI (jm 379) 1067 = (.iconst 1, 1) := by rfl
theorem jI_379_1068 : jmI (jm 379) 1068 = (.iadd, 1) := by rfl
theorem jI_379_1070 : jmI (jm 379) 1070 = (.aload_n 0, 1) := by rfl
theorem jI_379_1071 : jmI (jm 379) 1071 = (.iload 5, 2) := by rfl
theorem jI_379_1073 : jmI (jm 379) 1073 = (.iconst 2, 1) := by rfl
theorem jI_379_1074 : jmI (jm 379) 1074 = (.iadd, 1) := by rfl
theorem jI_379_1076 : jmI (jm 379) 1076 = (.aload_n 0, 1) := by rfl
theorem jI_379_1077 : jmI (jm 379) 1077 = (.iload 5, 2) := by rfl
theorem jI_379_1079 : jmI (jm 379) 1079 = (.iconst 3, 1) := by rfl
theorem jI_379_1080 : jmI (jm 379) 1080 = (.iadd, 1) := by rfl
theorem jI_379_1082 : jmI (jm 379) 1082 = (.ifCond .eq 7, 3) := by rfl
theorem jI_379_1085 : jmI (jm 379) 1085 = (.iconst 1, 1) := by rfl
theorem jI_379_1086 : jmI (jm 379) 1086 = (.goto 4, 3) := by rfl
theorem jI_379_1090 : jmI (jm 379) 1090 = (.aload_n 3, 1) := by rfl
theorem jI_379_1094 : jmI (jm 379) 1094 = (.istore 6, 2) := by rfl
theorem jI_379_1096 : jmI (jm 379) 1096 = (.aload_n 2, 1) := by rfl
theorem jI_379_1097 : jmI (jm 379) 1097 = (.aload_n 0, 1) := by rfl
theorem jI_379_1098 : jmI (jm 379) 1098 = (.iload 5, 2) := by rfl
theorem jI_379_1100 : jmI (jm 379) 1100 = (.iconst 1, 1) := by rfl
theorem jI_379_1101 : jmI (jm 379) 1101 = (.iadd, 1) := by rfl
theorem jI_379_1103 : jmI (jm 379) 1103 = (.aload_n 0, 1) := by rfl
theorem jI_379_1104 : jmI (jm 379) 1104 = (.iload 5, 2) := by rfl
theorem jI_379_1106 : jmI (jm 379) 1106 = (.iconst 2, 1) := by rfl
theorem jI_379_1107 : jmI (jm 379) 1107 = (.iadd, 1) := by rfl
theorem jI_379_1109 : jmI (jm 379) 1109 = (.aload_n 0, 1) := by rfl
theorem jI_379_1110 : jmI (jm 379) 1110 = (.iload 5, 2) := by rfl
theorem jI_379_1112 : jmI (jm 379) 1112 = (.iconst 3, 1) := by rfl
theorem jI_379_1113 : jmI (jm 379) 1113 = (.iadd, 1) := by rfl
theorem jI_379_1115 : jmI (jm 379) 1115 = (.ifCond .eq 7, 3) := by rfl
theorem jI_379_1118 : jmI (jm 379) 1118 = (.iconst 1, 1) := by rfl
theorem jI_379_1119 : jmI (jm 379) 1119 = (.goto 4, 3) := by rfl
theorem jI_379_1126 : jmI (jm 379) 1126 = (.istore 7, 2) := by rfl
theorem jI_379_1128 : jmI (jm 379) 1128 = (.aload_n 2, 1) := by rfl
theorem jI_379_1132 : jmI (jm 379) 1132 = (.iload 6, 2) := by rfl
theorem jI_379_1134 : jmI (jm 379) 1134 = (.if_icmp .eq 5, 3) := by rfl
theorem jI_379_1139 : jmI (jm 379) 1139 = (.iload 6, 2) := by rfl
theorem jI_379_1141 : jmI (jm 379) 1141 = (.ifCond .ne 22, 3) := by rfl
theorem jI_379_1163 : jmI (jm 379) 1163 = (.goto 2577, 3) := by rfl
set_option maxRecDepth 100000 in
theorem jL_10_0 {d : Nat} {x0 x1 x2 x3 x4 : Int} (h_x0 : (-2147483648) ≤ x0 ∧ x0 ≤ 2147483647) (h_x1 : (-2147483648) ≤ x1 ∧ x1 ≤ (-1)) (h_x2 : (-2147483648) ≤ x2 ∧ x2 ≤ 2147483647) (h_x3 : (-2147483648) ≤ x3 ∧ x3 ≤ (-1)) (h_x4 : (-2147483648) ≤ x4 ∧ x4 ≤ 2147483647) : jT [x0, x1, x2, x3, x4] (d + 3) 379 30 1063 [(5, (0, 0)), (4, (4, 3)), (3, (4, 2)), (2, (4, 1)), (1, (4, 0)), (0, (6, 0))] [] jpA_267 1 6 (fun k v hsN => k = 0 ∧ v = (0, 1)) := by
  refine jT_xaload_n (v := (4, 0)) (pcN := 1064) jI_379_1063 rfl rfl rfl ?_
  refine jT_xaload_n (v := (6, 0)) (pcN := 1065) jI_379_1064 rfl rfl rfl ?_
  refine jT_xiload (v := (0, 0)) (pcN := 1067) jI_379_1065 rfl rfl rfl ?_
  refine jT_xiconst (k := 1) (pcN := 1068) jI_379_1067 rfl ?_
  refine jT_xiadd (x := 0) (y := 1) (z := 1) (pcN := 1069) jI_379_1068 rfl (by decide) rfl ?_
  refine jT_adv 1 (pcN := 1070) (LN := [(5, (0, 0)), (4, (4, 3)), (3, (4, 2)), (2, (4, 1)), (1, (4, 0)), (0, (6, 0))]) (stN := [(0, x1), (4, 0)]) (hsN := jpA_267) (c1 := 0) (s1 := 0) (c2 := 1) (s2 := 6) (by exact rfl) ?_ (by omega) (by omega)
  refine jT_xaload_n (v := (6, 0)) (pcN := 1071) jI_379_1070 rfl rfl rfl ?_
  refine jT_xiload (v := (0, 0)) (pcN := 1073) jI_379_1071 rfl rfl rfl ?_
  refine jT_xiconst (k := 2) (pcN := 1074) jI_379_1073 rfl ?_
  refine jT_xiadd (x := 0) (y := 2) (z := 2) (pcN := 1075) jI_379_1074 rfl (by decide) rfl ?_
  refine jT_adv 1 (pcN := 1076) (LN := [(5, (0, 0)), (4, (4, 3)), (3, (4, 2)), (2, (4, 1)), (1, (4, 0)), (0, (6, 0))]) (stN := [(0, x2), (0, x1), (4, 0)]) (hsN := jpA_267) (c1 := 0) (s1 := 0) (c2 := 1) (s2 := 6) (by exact rfl) ?_ (by omega) (by omega)
  refine jT_xaload_n (v := (6, 0)) (pcN := 1077) jI_379_1076 rfl rfl rfl ?_
  refine jT_xiload (v := (0, 0)) (pcN := 1079) jI_379_1077 rfl rfl rfl ?_
  refine jT_xiconst (k := 3) (pcN := 1080) jI_379_1079 rfl ?_
  refine jT_xiadd (x := 0) (y := 3) (z := 3) (pcN := 1081) jI_379_1080 rfl (by decide) rfl ?_
  refine jT_adv 1 (pcN := 1082) (LN := [(5, (0, 0)), (4, (4, 3)), (3, (4, 2)), (2, (4, 1)), (1, (4, 0)), (0, (6, 0))]) (stN := [(0, x3), (0, x2), (0, x1), (4, 0)]) (hsN := jpA_267) (c1 := 0) (s1 := 0) (c2 := 1) (s2 := 6) (by exact rfl) ?_ (by omega) (by omega)
  refine jT_ifF (a := x3) (t := 1089) (by rfl) (by rfl) (by rfl) (jw_idd (by omega) (by omega)) (by simp only [jcP] <;> omega) ?_
  refine jT_xiconst (k := 1) (pcN := 1086) jI_379_1085 rfl ?_
  refine jT_xgoto (pcN := 1090) jI_379_1086 rfl ?_
  refine jT_xaload_n (v := (4, 2)) (pcN := 1091) jI_379_1090 rfl rfl rfl ?_
  refine jT_fR [0, 2, 4, 5, 6, 7, 8, 9, 10, 11, 12, 13, 14] 30 (y := 336) (pcN := 1094) (dC := 2) (bc1 := 1) (bc2 := 6) (c1 := 0) (c2 := 0) (as := [(4, 0), (0, x1), (0, x2), (0, 1), (4, 2)]) (asC := [(4, 0), (0, x1), (0, x2), (0, 1), (4, 1)]) (LN := [(5, (0, 0)), (4, (4, 3)), (3, (4, 2)), (2, (4, 1)), (1, (4, 0)), (0, (6, 0))]) (stN := []) (hsC := jpA_15) (v := (0, 1)) (st2 := [(0, 1)]) (jA_336_312 (d := 0) (by omega) (by omega)) (by rfl) (by rfl) (by decide +kernel) (by rfl) (by rfl) (by omega) (by omega) (by omega) (by omega) rfl ?_
  refine jT_xistore (v := (0, 1)) (LN := [(6, (0, 1)), (5, (0, 0)), (4, (4, 3)), (3, (4, 2)), (2, (4, 1)), (1, (4, 0)), (0, (6, 0))]) (pcN := 1096) jI_379_1094 rfl rfl rfl rfl ?_
  refine jT_xaload_n (v := (4, 1)) (pcN := 1097) jI_379_1096 rfl rfl rfl ?_
  refine jT_xaload_n (v := (6, 0)) (pcN := 1098) jI_379_1097 rfl rfl rfl ?_
  refine jT_xiload (v := (0, 0)) (pcN := 1100) jI_379_1098 rfl rfl rfl ?_
  refine jT_xiconst (k := 1) (pcN := 1101) jI_379_1100 rfl ?_
  refine jT_xiadd (x := 0) (y := 1) (z := 1) (pcN := 1102) jI_379_1101 rfl (by decide) rfl ?_
  refine jT_adv 1 (pcN := 1103) (LN := [(6, (0, 1)), (5, (0, 0)), (4, (4, 3)), (3, (4, 2)), (2, (4, 1)), (1, (4, 0)), (0, (6, 0))]) (stN := [(0, x1), (4, 1)]) (hsN := jpA_267) (c1 := 0) (s1 := 0) (c2 := 0) (s2 := 0) (by exact rfl) ?_ (by omega) (by omega)
  refine jT_xaload_n (v := (6, 0)) (pcN := 1104) jI_379_1103 rfl rfl rfl ?_
  refine jT_xiload (v := (0, 0)) (pcN := 1106) jI_379_1104 rfl rfl rfl ?_
  refine jT_xiconst (k := 2) (pcN := 1107) jI_379_1106 rfl ?_
  refine jT_xiadd (x := 0) (y := 2) (z := 2) (pcN := 1108) jI_379_1107 rfl (by decide) rfl ?_
  refine jT_adv 1 (pcN := 1109) (LN := [(6, (0, 1)), (5, (0, 0)), (4, (4, 3)), (3, (4, 2)), (2, (4, 1)), (1, (4, 0)), (0, (6, 0))]) (stN := [(0, x2), (0, x1), (4, 1)]) (hsN := jpA_267) (c1 := 0) (s1 := 0) (c2 := 0) (s2 := 0) (by exact rfl) ?_ (by omega) (by omega)
  refine jT_xaload_n (v := (6, 0)) (pcN := 1110) jI_379_1109 rfl rfl rfl ?_
  refine jT_xiload (v := (0, 0)) (pcN := 1112) jI_379_1110 rfl rfl rfl ?_
  refine jT_xiconst (k := 3) (pcN := 1113) jI_379_1112 rfl ?_
  refine jT_xiadd (x := 0) (y := 3) (z := 3) (pcN := 1114) jI_379_1113 rfl (by decide) rfl ?_
  refine jT_adv 1 (pcN := 1115) (LN := [(6, (0, 1)), (5, (0, 0)), (4, (4, 3)), (3, (4, 2)), (2, (4, 1)), (1, (4, 0)), (0, (6, 0))]) (stN := [(0, x3), (0, x2), (0, x1), (4, 1)]) (hsN := jpA_267) (c1 := 0) (s1 := 0) (c2 := 0) (s2 := 0) (by exact rfl) ?_ (by omega) (by omega)
  refine jT_ifF (a := x3) (t := 1122) (by rfl) (by rfl) (by rfl) (jw_idd (by omega) (by omega)) (by simp only [jcP] <;> omega) ?_
  refine jT_xiconst (k := 1) (pcN := 1119) jI_379_1118 rfl ?_
  refine jT_xgoto (pcN := 1123) jI_379_1119 rfl ?_
  refine jT_fB [1, 15, 16, 17, 18, 19, 20, 21, 22, 23, 24, 25, 26, 27, 28, 29] 30 (y := 243) (pcN := 1126) (dC := 2) (bc1 := 0) (bc2 := 0) (c1 := 0) (c2 := 0) (as := [(4, 1), (0, x1), (0, x2), (0, 1)]) (asC := [(4, 0), (0, x1), (0, x2), (0, 1)]) (LN := [(6, (0, 1)), (5, (0, 0)), (4, (4, 3)), (3, (4, 2)), (2, (4, 1)), (1, (4, 0)), (0, (6, 0))]) (stN := []) (hsC := jpA_22) (hsD := jpA_20) (v := (0, 0)) (st2 := [(0, 0)]) (hs2 := jpA_306) (jA_243_314 (d := 0) (by omega) (by omega)) (by rfl) (by rfl) (by decide +kernel) (by rfl) (by rfl) (by omega) (by omega) (by omega) (by omega) rfl (by decide +kernel) ?_
  refine jT_xistore (v := (0, 0)) (LN := [(7, (0, 0)), (6, (0, 1)), (5, (0, 0)), (4, (4, 3)), (3, (4, 2)), (2, (4, 1)), (1, (4, 0)), (0, (6, 0))]) (pcN := 1128) jI_379_1126 rfl rfl rfl rfl ?_
  refine jT_xaload_n (v := (4, 1)) (pcN := 1129) jI_379_1128 rfl rfl rfl ?_
  refine jT_fR [1, 15, 16, 17, 18, 19, 20, 21, 22, 23, 24, 25, 26, 27, 28, 29] 30 (y := 186) (pcN := 1132) (dC := 0) (bc1 := 0) (bc2 := 0) (c1 := 0) (c2 := 0) (as := [(4, 1)]) (asC := [(4, 0)]) (LN := [(7, (0, 0)), (6, (0, 1)), (5, (0, 0)), (4, (4, 3)), (3, (4, 2)), (2, (4, 1)), (1, (4, 0)), (0, (6, 0))]) (stN := []) (hsC := jpA_20) (v := (0, 1)) (st2 := [(0, 1)]) (jA_186_8 (d := 0)) (by rfl) (by rfl) (by decide +kernel) (by rfl) (by rfl) (by omega) (by omega) (by omega) (by omega) rfl ?_
  refine jT_xiload (v := (0, 1)) (pcN := 1134) jI_379_1132 rfl rfl rfl ?_
  refine jT_xicT (pcN := 1139) jI_379_1134 rfl (by decide +kernel) rfl ?_
  refine jT_xiload (v := (0, 1)) (pcN := 1141) jI_379_1139 rfl rfl rfl ?_
  refine jT_xifT (pcN := 1163) jI_379_1141 rfl (by decide +kernel) rfl ?_
  refine jT_xgoto (pcN := 3740) jI_379_1163 rfl ?_
  refine jT_xiinc (x := 0) (z := 5) (LN := [(5, (0, 5)), (7, (0, 0)), (6, (0, 1)), (4, (4, 3)), (3, (4, 2)), (2, (4, 1)), (1, (4, 0)), (0, (6, 0))]) (pcN := 3743) jI_379_3740 rfl rfl (by decide) rfl rfl ?_
  refine jT_xgoto (pcN := 28) jI_379_3743 rfl ?_
  refine jT_xiload (v := (0, 5)) (pcN := 30) jI_379_28 rfl rfl rfl ?_
  refine jT_xaload_n (v := (6, 0)) (pcN := 31) jI_379_30 rfl rfl rfl ?_
  refine jT_adv 1 (pcN := 32) (LN := [(5, (0, 5)), (7, (0, 0)), (6, (0, 1)), (4, (4, 3)), (3, (4, 2)), (2, (4, 1)), (1, (4, 0)), (0, (6, 0))]) (stN := [(0, 5), (0, 5)]) (hsN := jpA_306) (c1 := 0) (s1 := 0) (c2 := 0) (s2 := 0) (by exact rfl) ?_ (by omega) (by omega)
  refine jT_xiconst (k := 5) (pcN := 33) jI_379_32 rfl ?_
  refine jT_xisub (x := 5) (y := 5) (z := 0) (pcN := 34) jI_379_33 rfl (by decide) rfl ?_
  refine jT_xicT (pcN := 3746) jI_379_34 rfl (by decide +kernel) rfl ?_
  refine jT_xiconst (k := 1) (pcN := 3747) jI_379_3746 rfl ?_
  exact jT_ret rfl (by decide) (by show 30 ≤ 30; decide) (by omega) (by omega) ⟨rfl, rfl⟩
set_option maxRecDepth 100000 in
theorem jL_10_1 {d : Nat} {x0 x1 x2 x3 x4 : Int} (h_x0 : (-2147483648) ≤ x0 ∧ x0 ≤ 2147483647) (h_x1 : 0 ≤ x1 ∧ x1 ≤ 3) (h_x2 : (-2147483648) ≤ x2 ∧ x2 ≤ (-1)) (h_x3 : (-2147483648) ≤ x3 ∧ x3 ≤ (-1)) (h_x4 : (-2147483648) ≤ x4 ∧ x4 ≤ 2147483647) : jT [x0, x1, x2, x3, x4] (d + 3) 379 30 1063 [(5, (0, 0)), (4, (4, 3)), (3, (4, 2)), (2, (4, 1)), (1, (4, 0)), (0, (6, 0))] [] jpA_267 1 6 (fun k v hsN => k = 0 ∧ v = (0, 1)) := by
  refine jT_xaload_n (v := (4, 0)) (pcN := 1064) jI_379_1063 rfl rfl rfl ?_
  refine jT_xaload_n (v := (6, 0)) (pcN := 1065) jI_379_1064 rfl rfl rfl ?_
  refine jT_xiload (v := (0, 0)) (pcN := 1067) jI_379_1065 rfl rfl rfl ?_
  refine jT_xiconst (k := 1) (pcN := 1068) jI_379_1067 rfl ?_
  refine jT_xiadd (x := 0) (y := 1) (z := 1) (pcN := 1069) jI_379_1068 rfl (by decide) rfl ?_
  refine jT_adv 1 (pcN := 1070) (LN := [(5, (0, 0)), (4, (4, 3)), (3, (4, 2)), (2, (4, 1)), (1, (4, 0)), (0, (6, 0))]) (stN := [(0, x1), (4, 0)]) (hsN := jpA_267) (c1 := 0) (s1 := 0) (c2 := 1) (s2 := 6) (by exact rfl) ?_ (by omega) (by omega)
  refine jT_xaload_n (v := (6, 0)) (pcN := 1071) jI_379_1070 rfl rfl rfl ?_
  refine jT_xiload (v := (0, 0)) (pcN := 1073) jI_379_1071 rfl rfl rfl ?_
  refine jT_xiconst (k := 2) (pcN := 1074) jI_379_1073 rfl ?_
  refine jT_xiadd (x := 0) (y := 2) (z := 2) (pcN := 1075) jI_379_1074 rfl (by decide) rfl ?_
  refine jT_adv 1 (pcN := 1076) (LN := [(5, (0, 0)), (4, (4, 3)), (3, (4, 2)), (2, (4, 1)), (1, (4, 0)), (0, (6, 0))]) (stN := [(0, x2), (0, x1), (4, 0)]) (hsN := jpA_267) (c1 := 0) (s1 := 0) (c2 := 1) (s2 := 6) (by exact rfl) ?_ (by omega) (by omega)
  refine jT_xaload_n (v := (6, 0)) (pcN := 1077) jI_379_1076 rfl rfl rfl ?_
  refine jT_xiload (v := (0, 0)) (pcN := 1079) jI_379_1077 rfl rfl rfl ?_
  refine jT_xiconst (k := 3) (pcN := 1080) jI_379_1079 rfl ?_
  refine jT_xiadd (x := 0) (y := 3) (z := 3) (pcN := 1081) jI_379_1080 rfl (by decide) rfl ?_
  refine jT_adv 1 (pcN := 1082) (LN := [(5, (0, 0)), (4, (4, 3)), (3, (4, 2)), (2, (4, 1)), (1, (4, 0)), (0, (6, 0))]) (stN := [(0, x3), (0, x2), (0, x1), (4, 0)]) (hsN := jpA_267) (c1 := 0) (s1 := 0) (c2 := 1) (s2 := 6) (by exact rfl) ?_ (by omega) (by omega)
  refine jT_ifF (a := x3) (t := 1089) (by rfl) (by rfl) (by rfl) (jw_idd (by omega) (by omega)) (by simp only [jcP] <;> omega) ?_
  refine jT_xiconst (k := 1) (pcN := 1086) jI_379_1085 rfl ?_
  refine jT_xgoto (pcN := 1090) jI_379_1086 rfl ?_
  refine jT_xaload_n (v := (4, 2)) (pcN := 1091) jI_379_1090 rfl rfl rfl ?_
  refine jT_fR [0, 2, 4, 5, 6, 7, 8, 9, 10, 11, 12, 13, 14] 30 (y := 336) (pcN := 1094) (dC := 2) (bc1 := 1) (bc2 := 6) (c1 := 0) (c2 := 0) (as := [(4, 0), (0, x1), (0, x2), (0, 1), (4, 2)]) (asC := [(4, 0), (0, x1), (0, x2), (0, 1), (4, 1)]) (LN := [(5, (0, 0)), (4, (4, 3)), (3, (4, 2)), (2, (4, 1)), (1, (4, 0)), (0, (6, 0))]) (stN := []) (hsC := jpA_15) (v := (0, 1)) (st2 := [(0, 1)]) (jA_336_317 (d := 0) (by omega) (by omega)) (by rfl) (by rfl) (by decide +kernel) (by rfl) (by rfl) (by omega) (by omega) (by omega) (by omega) rfl ?_
  refine jT_xistore (v := (0, 1)) (LN := [(6, (0, 1)), (5, (0, 0)), (4, (4, 3)), (3, (4, 2)), (2, (4, 1)), (1, (4, 0)), (0, (6, 0))]) (pcN := 1096) jI_379_1094 rfl rfl rfl rfl ?_
  refine jT_xaload_n (v := (4, 1)) (pcN := 1097) jI_379_1096 rfl rfl rfl ?_
  refine jT_xaload_n (v := (6, 0)) (pcN := 1098) jI_379_1097 rfl rfl rfl ?_
  refine jT_xiload (v := (0, 0)) (pcN := 1100) jI_379_1098 rfl rfl rfl ?_
  refine jT_xiconst (k := 1) (pcN := 1101) jI_379_1100 rfl ?_
  refine jT_xiadd (x := 0) (y := 1) (z := 1) (pcN := 1102) jI_379_1101 rfl (by decide) rfl ?_
  refine jT_adv 1 (pcN := 1103) (LN := [(6, (0, 1)), (5, (0, 0)), (4, (4, 3)), (3, (4, 2)), (2, (4, 1)), (1, (4, 0)), (0, (6, 0))]) (stN := [(0, x1), (4, 1)]) (hsN := jpA_267) (c1 := 0) (s1 := 0) (c2 := 0) (s2 := 0) (by exact rfl) ?_ (by omega) (by omega)
  refine jT_xaload_n (v := (6, 0)) (pcN := 1104) jI_379_1103 rfl rfl rfl ?_
  refine jT_xiload (v := (0, 0)) (pcN := 1106) jI_379_1104 rfl rfl rfl ?_
  refine jT_xiconst (k := 2) (pcN := 1107) jI_379_1106 rfl ?_
  refine jT_xiadd (x := 0) (y := 2) (z := 2) (pcN := 1108) jI_379_1107 rfl (by decide) rfl ?_
  refine jT_adv 1 (pcN := 1109) (LN := [(6, (0, 1)), (5, (0, 0)), (4, (4, 3)), (3, (4, 2)), (2, (4, 1)), (1, (4, 0)), (0, (6, 0))]) (stN := [(0, x2), (0, x1), (4, 1)]) (hsN := jpA_267) (c1 := 0) (s1 := 0) (c2 := 0) (s2 := 0) (by exact rfl) ?_ (by omega) (by omega)
  refine jT_xaload_n (v := (6, 0)) (pcN := 1110) jI_379_1109 rfl rfl rfl ?_
  refine jT_xiload (v := (0, 0)) (pcN := 1112) jI_379_1110 rfl rfl rfl ?_
  refine jT_xiconst (k := 3) (pcN := 1113) jI_379_1112 rfl ?_
  refine jT_xiadd (x := 0) (y := 3) (z := 3) (pcN := 1114) jI_379_1113 rfl (by decide) rfl ?_
  refine jT_adv 1 (pcN := 1115) (LN := [(6, (0, 1)), (5, (0, 0)), (4, (4, 3)), (3, (4, 2)), (2, (4, 1)), (1, (4, 0)), (0, (6, 0))]) (stN := [(0, x3), (0, x2), (0, x1), (4, 1)]) (hsN := jpA_267) (c1 := 0) (s1 := 0) (c2 := 0) (s2 := 0) (by exact rfl) ?_ (by omega) (by omega)
  refine jT_ifF (a := x3) (t := 1122) (by rfl) (by rfl) (by rfl) (jw_idd (by omega) (by omega)) (by simp only [jcP] <;> omega) ?_
  refine jT_xiconst (k := 1) (pcN := 1119) jI_379_1118 rfl ?_
  refine jT_xgoto (pcN := 1123) jI_379_1119 rfl ?_
  refine jT_fB [1, 15, 16, 17, 18, 19, 20, 21, 22, 23, 24, 25, 26, 27, 28, 29] 30 (y := 243) (pcN := 1126) (dC := 2) (bc1 := 0) (bc2 := 0) (c1 := 0) (c2 := 0) (as := [(4, 1), (0, x1), (0, x2), (0, 1)]) (asC := [(4, 0), (0, x1), (0, x2), (0, 1)]) (LN := [(6, (0, 1)), (5, (0, 0)), (4, (4, 3)), (3, (4, 2)), (2, (4, 1)), (1, (4, 0)), (0, (6, 0))]) (stN := []) (hsC := jpA_22) (hsD := jpA_20) (v := (0, 0)) (st2 := [(0, 0)]) (hs2 := jpA_306) (jA_243_319 (d := 0) (by omega) (by omega)) (by rfl) (by rfl) (by decide +kernel) (by rfl) (by rfl) (by omega) (by omega) (by omega) (by omega) rfl (by decide +kernel) ?_
  refine jT_xistore (v := (0, 0)) (LN := [(7, (0, 0)), (6, (0, 1)), (5, (0, 0)), (4, (4, 3)), (3, (4, 2)), (2, (4, 1)), (1, (4, 0)), (0, (6, 0))]) (pcN := 1128) jI_379_1126 rfl rfl rfl rfl ?_
  refine jT_xaload_n (v := (4, 1)) (pcN := 1129) jI_379_1128 rfl rfl rfl ?_
  refine jT_fR [1, 15, 16, 17, 18, 19, 20, 21, 22, 23, 24, 25, 26, 27, 28, 29] 30 (y := 186) (pcN := 1132) (dC := 0) (bc1 := 0) (bc2 := 0) (c1 := 0) (c2 := 0) (as := [(4, 1)]) (asC := [(4, 0)]) (LN := [(7, (0, 0)), (6, (0, 1)), (5, (0, 0)), (4, (4, 3)), (3, (4, 2)), (2, (4, 1)), (1, (4, 0)), (0, (6, 0))]) (stN := []) (hsC := jpA_20) (v := (0, 1)) (st2 := [(0, 1)]) (jA_186_8 (d := 0)) (by rfl) (by rfl) (by decide +kernel) (by rfl) (by rfl) (by omega) (by omega) (by omega) (by omega) rfl ?_
  refine jT_xiload (v := (0, 1)) (pcN := 1134) jI_379_1132 rfl rfl rfl ?_
  refine jT_xicT (pcN := 1139) jI_379_1134 rfl (by decide +kernel) rfl ?_
  refine jT_xiload (v := (0, 1)) (pcN := 1141) jI_379_1139 rfl rfl rfl ?_
  refine jT_xifT (pcN := 1163) jI_379_1141 rfl (by decide +kernel) rfl ?_
  refine jT_xgoto (pcN := 3740) jI_379_1163 rfl ?_
  refine jT_xiinc (x := 0) (z := 5) (LN := [(5, (0, 5)), (7, (0, 0)), (6, (0, 1)), (4, (4, 3)), (3, (4, 2)), (2, (4, 1)), (1, (4, 0)), (0, (6, 0))]) (pcN := 3743) jI_379_3740 rfl rfl (by decide) rfl rfl ?_
  refine jT_xgoto (pcN := 28) jI_379_3743 rfl ?_
  refine jT_xiload (v := (0, 5)) (pcN := 30) jI_379_28 rfl rfl rfl ?_
  refine jT_xaload_n (v := (6, 0)) (pcN := 31) jI_379_30 rfl rfl rfl ?_
  refine jT_adv 1 (pcN := 32) (LN := [(5, (0, 5)), (7, (0, 0)), (6, (0, 1)), (4, (4, 3)), (3, (4, 2)), (2, (4, 1)), (1, (4, 0)), (0, (6, 0))]) (stN := [(0, 5), (0, 5)]) (hsN := jpA_306) (c1 := 0) (s1 := 0) (c2 := 0) (s2 := 0) (by exact rfl) ?_ (by omega) (by omega)
  refine jT_xiconst (k := 5) (pcN := 33) jI_379_32 rfl ?_
  refine jT_xisub (x := 5) (y := 5) (z := 0) (pcN := 34) jI_379_33 rfl (by decide) rfl ?_
  refine jT_xicT (pcN := 3746) jI_379_34 rfl (by decide +kernel) rfl ?_
  refine jT_xiconst (k := 1) (pcN := 3747) jI_379_3746 rfl ?_
  exact jT_ret rfl (by decide) (by show 30 ≤ 30; decide) (by omega) (by omega) ⟨rfl, rfl⟩
def jpA_1749 : List JC := [jzA_265, jzA_266, (101, [], [0]), jgh, (8, [(4, 30), (4, 31)], []), jgh, jgh, jgh, jgh, jgh, jgh, (101, [], [0, 0, 0, 0, 0, 0]), jgh, jzA_79, jzA_721, (100, [], jS0), (100, [], []), jzA_722, jzA_197, jgh, (130, [], [45, 46, 47, 48, 49, 50]), (101, [], [0, 0, 0, 0, 0, 0]), (100, [], (List.replicate 1792 0)), jgh, jgh, jgh, jgh, jgh, jgh, jgh, jgh, (101, [], [0, 0, 0, 0, 0, 0]), jzA_723, (117, [], [52, 53, 54, 55]), jgh, jgh, jgh, (100, [], (List.replicate 1613 0)), jgh, jgh, jgh, jgh, jgh, jgh, jgh, (100, [], (jenc (jlg 0))), jgh, jgh, jgh, jgh, jgh, (4, [(4, 56), (1, 1)], []), (7, [(4, 57), (4, (-1)), (4, (-1))], []), jgh, jgh, jgh, (101, [], [0, 0, 0, 0, 0, 0]), (114, [], [51])]
def jzA_1750 : JC := (13, [(4, 4), (4, 5), (4, 6), (4, 7), (4, 8), (4, 9), (4, 10), (4, 11), (4, 12), (4, 13), (0, 1), (4, 64), (0, 0)], [])
def jzA_1751 : JC := (9, [(4, 32), (4, 63), (4, 34), (4, 35), (4, 36)], [])
def jpA_1752 : List JC := [jzA_1750, jzA_266, (101, [], [1]), jgh, (8, [(4, 30), (4, 31)], []), jgh, jgh, jgh, jgh, jgh, jgh, (101, [], [0, 0, 0, 0, 0, 0]), jgh, jzA_327, jzA_721, (100, [], jS0), (100, [], []), jzA_722, jzA_197, jgh, (130, [], [45, 46, 47, 48, 49, 50]), (101, [], [0, 0, 0, 0, 0, 0]), (100, [], (List.replicate 1792 0)), jgh, jgh, jgh, jgh, jgh, jgh, jgh, jgh, (101, [], [0, 0, 0, 0, 0, 0]), jzA_723, (117, [], [52, 53, 54, 55]), jgh, jgh, jgh, (100, [], (List.replicate 1613 0)), jgh, jgh, jgh, jgh, jgh, jgh, jgh, (100, [], (jenc (jlg 0))), jgh, jgh, jgh, jgh, jgh, (4, [(4, 56), (1, 1)], []), (7, [(4, 57), (4, (-1)), (4, (-1))], []), jgh, jgh, jgh, (101, [], [0, 0, 0, 0, 0, 0]), (114, [], [51]), (101, [], [0, 0, 0, 0, 0, 0]), (4, [(4, 58), (1, 1)], []), (114, [], [51, (-1)]), (114, [], [51]), (7, [(4, 61), (4, (-1)), (4, (-1))], []), (117, [], [62, 53, 54, 55]), jzA_1751]
def jzA_1753 : JC := (14, [(0, 0), (4, 15), (4, 16), (4, 17), (4, 18), (0, 1), (4, 19), (0, 0), (4, 20), (4, 21), (1, 1), (4, 22), (0, 1), (4, 23), (0, 0), (0, 0), (0, 0), (0, 0), (0, 0), (0, 0), (0, 0), (4, 24), (4, 25), (4, 26), (4, 27), (4, 28), (4, 29), (0, 0)], [])
def jpA_1754 : List JC := [jzA_1750, jzA_1753, (101, [], [1]), jgh, (8, [(4, 30), (4, 31)], []), jgh, jgh, jgh, jgh, jgh, jgh, (101, [], [0, 0, 0, 0, 0, 0]), jgh, jzA_327, jzA_721, jzA_1561, (100, [], []), jzA_722, jzA_331, jgh, (130, [], [45, 46, 47, 48, 49, 50]), (101, [], [0, 0, 0, 0, 0, 0]), jzA_1539, jgh, jgh, jgh, jgh, jgh, jgh, jgh, jgh, (101, [], [0, 0, 0, 0, 0, 0]), jzA_723, (117, [], [52, 53, 54, 55]), jgh, jgh, jgh, (100, [], jS0), jgh, jgh, jgh, jgh, jgh, jgh, jgh, (100, [], (jenc (jlg 0))), jgh, jgh, jgh, jgh, jgh, (4, [(4, 56), (1, 1)], []), (7, [(4, 57), (4, (-1)), (4, (-1))], []), jgh, jgh, jgh, (101, [], [0, 0, 0, 0, 0, 0]), (114, [], [51]), (101, [], [0, 0, 0, 0, 0, 0]), (4, [(4, 58), (1, 1)], []), (114, [], [51, (-1)]), (114, [], [51]), (7, [(4, 61), (4, (-1)), (4, (-1))], []), (117, [], [62, 53, 54, 55]), jzA_1751, (101, [], [0, 0, 0, 0, 0, 0]), (101, [], [(-1), 0, 0, 0, 0, 0]), (100, [], (jenc 0)), (100, [], (jenc (-1))), (100, [], (jenc ((-1) * (jlg 0)))), (100, [], [0, 0, 0, 0, 0, 0, 1]), (101, [], [0, 0, 0, 0, 0, 0])]
theorem jI_379_1144 : jmI (jm 379) 1144 = (.aload_n 3, 1) := by rfl
theorem jI_379_1145 : jmI (jm 379) 1145 = (.iconst 0, 1) := by rfl
theorem jI_379_1146 : jmI (jm 379) 1146 = (.laload, 1) := by rfl
theorem jI_379_1147 : jmI (jm 379) 1147 = (.iload 7, 2) := by rfl
theorem jI_379_1149 : jmI (jm 379) 1149 = (.ifCond .eq 7, 3) := by rfl
theorem jI_379_1152 : jmI (jm 379) 1152 = (.lconst 1, 1) := by rfl
theorem jI_379_1153 : jmI (jm 379) 1153 = (.goto 4, 3) := by rfl
theorem jI_379_1158 : jmI (jm 379) 1158 = (.ifCond .eq 5, 3) := by rfl
set_option maxRecDepth 100000 in
theorem jL_10_2 {d : Nat} {x0 x1 x2 x3 x4 : Int} (h_x0 : (-2147483648) ≤ x0 ∧ x0 ≤ 2147483647) (h_x1 : 0 ≤ x1 ∧ x1 ≤ 0) (h_x2 : 0 ≤ x2 ∧ x2 ≤ 7) (h_x3 : (-2147483648) ≤ x3 ∧ x3 ≤ (-1)) (h_x4 : (-2147483648) ≤ x4 ∧ x4 ≤ 2147483647) : jT [x0, x1, x2, x3, x4] (d + 8) 379 58 1063 [(5, (0, 0)), (4, (4, 3)), (3, (4, 2)), (2, (4, 1)), (1, (4, 0)), (0, (6, 0))] [] jpA_1749 14 216 (fun k v hsN => k = 0 ∧ v = (0, 1)) := by
  refine jT_xaload_n (v := (4, 0)) (pcN := 1064) jI_379_1063 rfl rfl rfl ?_
  refine jT_xaload_n (v := (6, 0)) (pcN := 1065) jI_379_1064 rfl rfl rfl ?_
  refine jT_xiload (v := (0, 0)) (pcN := 1067) jI_379_1065 rfl rfl rfl ?_
  refine jT_xiconst (k := 1) (pcN := 1068) jI_379_1067 rfl ?_
  refine jT_xiadd (x := 0) (y := 1) (z := 1) (pcN := 1069) jI_379_1068 rfl (by decide) rfl ?_
  refine jT_adv 1 (pcN := 1070) (LN := [(5, (0, 0)), (4, (4, 3)), (3, (4, 2)), (2, (4, 1)), (1, (4, 0)), (0, (6, 0))]) (stN := [(0, x1), (4, 0)]) (hsN := jpA_1749) (c1 := 0) (s1 := 0) (c2 := 14) (s2 := 216) (by exact rfl) ?_ (by omega) (by omega)
  refine jT_eq (LN := [(5, (0, 0)), (4, (4, 3)), (3, (4, 2)), (2, (4, 1)), (1, (4, 0)), (0, (6, 0))]) (stN := [(0, 0), (4, 0)]) (hsN := [jzA_265, jzA_266, (101, [], [0]), jgh, (8, [(4, 30), (4, 31)], []), jgh, jgh, jgh, jgh, jgh, jgh, (101, [], [0, 0, 0, 0, 0, 0]), jgh, jzA_79, jzA_721, (100, [], jS0), (100, [], []), jzA_722, jzA_197, jgh, (130, [], [45, 46, 47, 48, 49, 50]), (101, [], [0, 0, 0, 0, 0, 0]), (100, [], (List.replicate 1792 0)), jgh, jgh, jgh, jgh, jgh, jgh, jgh, jgh, (101, [], [0, 0, 0, 0, 0, 0]), jzA_723, (117, [], [52, 53, 54, 55]), jgh, jgh, jgh, (100, [], (List.replicate 1613 0)), jgh, jgh, jgh, jgh, jgh, jgh, jgh, (100, [], (jenc (jlg 0))), jgh, jgh, jgh, jgh, jgh, (4, [(4, 56), (1, 1)], []), (7, [(4, 57), (4, (-1)), (4, (-1))], []), jgh, jgh, jgh, (101, [], [0, 0, 0, 0, 0, 0]), (114, [], [51])]) (rfl) (by simp only [List.cons.injEq, Prod.mk.injEq, and_true, true_and] <;> ((try unfold jw); (try unfold jwl); omega)) (rfl) ?_
  refine jT_xaload_n (v := (6, 0)) (pcN := 1071) jI_379_1070 rfl rfl rfl ?_
  refine jT_xiload (v := (0, 0)) (pcN := 1073) jI_379_1071 rfl rfl rfl ?_
  refine jT_xiconst (k := 2) (pcN := 1074) jI_379_1073 rfl ?_
  refine jT_xiadd (x := 0) (y := 2) (z := 2) (pcN := 1075) jI_379_1074 rfl (by decide) rfl ?_
  refine jT_adv 1 (pcN := 1076) (LN := [(5, (0, 0)), (4, (4, 3)), (3, (4, 2)), (2, (4, 1)), (1, (4, 0)), (0, (6, 0))]) (stN := [(0, x2), (0, 0), (4, 0)]) (hsN := jpA_1749) (c1 := 0) (s1 := 0) (c2 := 14) (s2 := 216) (by exact rfl) ?_ (by omega) (by omega)
  refine jT_xaload_n (v := (6, 0)) (pcN := 1077) jI_379_1076 rfl rfl rfl ?_
  refine jT_xiload (v := (0, 0)) (pcN := 1079) jI_379_1077 rfl rfl rfl ?_
  refine jT_xiconst (k := 3) (pcN := 1080) jI_379_1079 rfl ?_
  refine jT_xiadd (x := 0) (y := 3) (z := 3) (pcN := 1081) jI_379_1080 rfl (by decide) rfl ?_
  refine jT_adv 1 (pcN := 1082) (LN := [(5, (0, 0)), (4, (4, 3)), (3, (4, 2)), (2, (4, 1)), (1, (4, 0)), (0, (6, 0))]) (stN := [(0, x3), (0, x2), (0, 0), (4, 0)]) (hsN := jpA_1749) (c1 := 0) (s1 := 0) (c2 := 14) (s2 := 216) (by exact rfl) ?_ (by omega) (by omega)
  refine jT_ifF (a := x3) (t := 1089) (by rfl) (by rfl) (by rfl) (jw_idd (by omega) (by omega)) (by simp only [jcP] <;> omega) ?_
  refine jT_xiconst (k := 1) (pcN := 1086) jI_379_1085 rfl ?_
  refine jT_xgoto (pcN := 1090) jI_379_1086 rfl ?_
  refine jT_xaload_n (v := (4, 2)) (pcN := 1091) jI_379_1090 rfl rfl rfl ?_
  refine jT_fB [0, 2, 4, 5, 6, 7, 8, 9, 10, 11, 12, 13, 14, 30, 31, 32, 33, 34, 35, 36, 51, 52, 53, 54, 55, 56, 57] 58 (y := 336) (pcN := 1094) (dC := 7) (bc1 := 7) (bc2 := 23) (c1 := 7) (c2 := 193) (as := [(4, 0), (0, 0), (0, x2), (0, 1), (4, 2)]) (asC := [(4, 0), (0, 0), (0, x2), (0, 1), (4, 1)]) (LN := [(5, (0, 0)), (4, (4, 3)), (3, (4, 2)), (2, (4, 1)), (1, (4, 0)), (0, (6, 0))]) (stN := []) (hsC := jpA_1518) (hsD := jpA_1515) (v := (0, 0)) (st2 := [(0, 0)]) (hs2 := jpA_1752) (jA_336_336 (d := 0) (by omega)) (by rfl) (by rfl) (by decide +kernel) (by rfl) (by rfl) (by omega) (by omega) (by omega) (by omega) rfl (by decide +kernel) ?_
  refine jT_xistore (v := (0, 0)) (LN := [(6, (0, 0)), (5, (0, 0)), (4, (4, 3)), (3, (4, 2)), (2, (4, 1)), (1, (4, 0)), (0, (6, 0))]) (pcN := 1096) jI_379_1094 rfl rfl rfl rfl ?_
  refine jT_xaload_n (v := (4, 1)) (pcN := 1097) jI_379_1096 rfl rfl rfl ?_
  refine jT_xaload_n (v := (6, 0)) (pcN := 1098) jI_379_1097 rfl rfl rfl ?_
  refine jT_xiload (v := (0, 0)) (pcN := 1100) jI_379_1098 rfl rfl rfl ?_
  refine jT_xiconst (k := 1) (pcN := 1101) jI_379_1100 rfl ?_
  refine jT_xiadd (x := 0) (y := 1) (z := 1) (pcN := 1102) jI_379_1101 rfl (by decide) rfl ?_
  refine jT_adv 1 (pcN := 1103) (LN := [(6, (0, 0)), (5, (0, 0)), (4, (4, 3)), (3, (4, 2)), (2, (4, 1)), (1, (4, 0)), (0, (6, 0))]) (stN := [(0, x1), (4, 1)]) (hsN := jpA_1752) (c1 := 0) (s1 := 0) (c2 := 7) (s2 := 193) (by exact rfl) ?_ (by omega) (by omega)
  refine jT_eq (LN := [(6, (0, 0)), (5, (0, 0)), (4, (4, 3)), (3, (4, 2)), (2, (4, 1)), (1, (4, 0)), (0, (6, 0))]) (stN := [(0, 0), (4, 1)]) (hsN := [jzA_1750, jzA_266, (101, [], [1]), jgh, (8, [(4, 30), (4, 31)], []), jgh, jgh, jgh, jgh, jgh, jgh, (101, [], [0, 0, 0, 0, 0, 0]), jgh, jzA_327, jzA_721, (100, [], jS0), (100, [], []), jzA_722, jzA_197, jgh, (130, [], [45, 46, 47, 48, 49, 50]), (101, [], [0, 0, 0, 0, 0, 0]), (100, [], (List.replicate 1792 0)), jgh, jgh, jgh, jgh, jgh, jgh, jgh, jgh, (101, [], [0, 0, 0, 0, 0, 0]), jzA_723, (117, [], [52, 53, 54, 55]), jgh, jgh, jgh, (100, [], (List.replicate 1613 0)), jgh, jgh, jgh, jgh, jgh, jgh, jgh, (100, [], (jenc (jlg 0))), jgh, jgh, jgh, jgh, jgh, (4, [(4, 56), (1, 1)], []), (7, [(4, 57), (4, (-1)), (4, (-1))], []), jgh, jgh, jgh, (101, [], [0, 0, 0, 0, 0, 0]), (114, [], [51]), (101, [], [0, 0, 0, 0, 0, 0]), (4, [(4, 58), (1, 1)], []), (114, [], [51, (-1)]), (114, [], [51]), (7, [(4, 61), (4, (-1)), (4, (-1))], []), (117, [], [62, 53, 54, 55]), jzA_1751]) (rfl) (by simp only [List.cons.injEq, Prod.mk.injEq, and_true, true_and] <;> ((try unfold jw); (try unfold jwl); omega)) (rfl) ?_
  refine jT_xaload_n (v := (6, 0)) (pcN := 1104) jI_379_1103 rfl rfl rfl ?_
  refine jT_xiload (v := (0, 0)) (pcN := 1106) jI_379_1104 rfl rfl rfl ?_
  refine jT_xiconst (k := 2) (pcN := 1107) jI_379_1106 rfl ?_
  refine jT_xiadd (x := 0) (y := 2) (z := 2) (pcN := 1108) jI_379_1107 rfl (by decide) rfl ?_
  refine jT_adv 1 (pcN := 1109) (LN := [(6, (0, 0)), (5, (0, 0)), (4, (4, 3)), (3, (4, 2)), (2, (4, 1)), (1, (4, 0)), (0, (6, 0))]) (stN := [(0, x2), (0, 0), (4, 1)]) (hsN := jpA_1752) (c1 := 0) (s1 := 0) (c2 := 7) (s2 := 193) (by exact rfl) ?_ (by omega) (by omega)
  refine jT_xaload_n (v := (6, 0)) (pcN := 1110) jI_379_1109 rfl rfl rfl ?_
  refine jT_xiload (v := (0, 0)) (pcN := 1112) jI_379_1110 rfl rfl rfl ?_
  refine jT_xiconst (k := 3) (pcN := 1113) jI_379_1112 rfl ?_
  refine jT_xiadd (x := 0) (y := 3) (z := 3) (pcN := 1114) jI_379_1113 rfl (by decide) rfl ?_
  refine jT_adv 1 (pcN := 1115) (LN := [(6, (0, 0)), (5, (0, 0)), (4, (4, 3)), (3, (4, 2)), (2, (4, 1)), (1, (4, 0)), (0, (6, 0))]) (stN := [(0, x3), (0, x2), (0, 0), (4, 1)]) (hsN := jpA_1752) (c1 := 0) (s1 := 0) (c2 := 7) (s2 := 193) (by exact rfl) ?_ (by omega) (by omega)
  refine jT_ifF (a := x3) (t := 1122) (by rfl) (by rfl) (by rfl) (jw_idd (by omega) (by omega)) (by simp only [jcP] <;> omega) ?_
  refine jT_xiconst (k := 1) (pcN := 1119) jI_379_1118 rfl ?_
  refine jT_xgoto (pcN := 1123) jI_379_1119 rfl ?_
  refine jT_fB [1, 15, 16, 17, 18, 19, 20, 21, 22, 23, 24, 25, 26, 27, 28, 29, 37, 38, 39, 40, 41, 42, 43, 44, 45, 46, 47, 48, 49, 50] 65 (y := 243) (pcN := 1126) (dC := 7) (bc1 := 7) (bc2 := 193) (c1 := 0) (c2 := 0) (as := [(4, 1), (0, 0), (0, x2), (0, 1)]) (asC := [(4, 0), (0, 0), (0, x2), (0, 1)]) (LN := [(6, (0, 0)), (5, (0, 0)), (4, (4, 3)), (3, (4, 2)), (2, (4, 1)), (1, (4, 0)), (0, (6, 0))]) (stN := []) (hsC := jpA_1632) (hsD := jpA_1630) (v := (0, 1)) (st2 := [(0, 1)]) (hs2 := jpA_1754) (jA_243_354 (d := 0) (by omega)) (by rfl) (by rfl) (by decide +kernel) (by rfl) (by rfl) (by omega) (by omega) (by omega) (by omega) rfl (by decide +kernel) ?_
  refine jT_xistore (v := (0, 1)) (LN := [(7, (0, 1)), (6, (0, 0)), (5, (0, 0)), (4, (4, 3)), (3, (4, 2)), (2, (4, 1)), (1, (4, 0)), (0, (6, 0))]) (pcN := 1128) jI_379_1126 rfl rfl rfl rfl ?_
  refine jT_xaload_n (v := (4, 1)) (pcN := 1129) jI_379_1128 rfl rfl rfl ?_
  refine jT_fR [1, 15, 16, 17, 18, 19, 20, 21, 22, 23, 24, 25, 26, 27, 28, 29] 72 (y := 186) (pcN := 1132) (dC := 0) (bc1 := 0) (bc2 := 0) (c1 := 0) (c2 := 0) (as := [(4, 1)]) (asC := [(4, 0)]) (LN := [(7, (0, 1)), (6, (0, 0)), (5, (0, 0)), (4, (4, 3)), (3, (4, 2)), (2, (4, 1)), (1, (4, 0)), (0, (6, 0))]) (stN := []) (hsC := jpA_1633) (v := (0, 0)) (st2 := [(0, 0)]) (jA_186_355 (d := 0)) (by rfl) (by rfl) (by decide +kernel) (by rfl) (by rfl) (by omega) (by omega) (by omega) (by omega) rfl ?_
  refine jT_xiload (v := (0, 0)) (pcN := 1134) jI_379_1132 rfl rfl rfl ?_
  refine jT_xicT (pcN := 1139) jI_379_1134 rfl (by decide +kernel) rfl ?_
  refine jT_xiload (v := (0, 0)) (pcN := 1141) jI_379_1139 rfl rfl rfl ?_
  refine jT_xifF (t := 1163) (pcN := 1144) jI_379_1141 rfl (by decide +kernel) rfl rfl ?_
  refine jT_xaload_n (v := (4, 2)) (pcN := 1145) jI_379_1144 rfl rfl rfl ?_
  refine jT_xiconst (k := 0) (pcN := 1146) jI_379_1145 rfl ?_
  refine jT_lald (x := 1) (a := 2) (j := 0) (fs := []) (X := [1]) jI_379_1146 rfl rfl rfl rfl ?_
  refine jT_eq (LN := [(7, (0, 1)), (6, (0, 0)), (5, (0, 0)), (4, (4, 3)), (3, (4, 2)), (2, (4, 1)), (1, (4, 0)), (0, (6, 0))]) (stN := [(1, 1)]) (hsN := jpA_1754) rfl rfl rfl ?_
  refine jT_xiload (v := (0, 1)) (pcN := 1149) jI_379_1147 rfl rfl rfl ?_
  refine jT_xifF (t := 1156) (pcN := 1152) jI_379_1149 rfl (by decide +kernel) rfl rfl ?_
  refine jT_xlconst (z := 1) (pcN := 1153) jI_379_1152 rfl rfl ?_
  refine jT_xgoto (pcN := 1157) jI_379_1153 rfl ?_
  refine jT_lcmp (a := 1) (b := 1) (z := 0) (by rfl) (by rfl) (by decide +kernel) (by decide +kernel) (by decide) ?_
  refine jT_xifT (pcN := 1163) jI_379_1158 rfl (by decide +kernel) rfl ?_
  refine jT_xgoto (pcN := 3740) jI_379_1163 rfl ?_
  refine jT_xiinc (x := 0) (z := 5) (LN := [(5, (0, 5)), (7, (0, 1)), (6, (0, 0)), (4, (4, 3)), (3, (4, 2)), (2, (4, 1)), (1, (4, 0)), (0, (6, 0))]) (pcN := 3743) jI_379_3740 rfl rfl (by decide) rfl rfl ?_
  refine jT_xgoto (pcN := 28) jI_379_3743 rfl ?_
  refine jT_xiload (v := (0, 5)) (pcN := 30) jI_379_28 rfl rfl rfl ?_
  refine jT_xaload_n (v := (6, 0)) (pcN := 31) jI_379_30 rfl rfl rfl ?_
  refine jT_adv 1 (pcN := 32) (LN := [(5, (0, 5)), (7, (0, 1)), (6, (0, 0)), (4, (4, 3)), (3, (4, 2)), (2, (4, 1)), (1, (4, 0)), (0, (6, 0))]) (stN := [(0, 5), (0, 5)]) (hsN := jpA_1754) (c1 := 0) (s1 := 0) (c2 := 0) (s2 := 0) (by exact rfl) ?_ (by omega) (by omega)
  refine jT_xiconst (k := 5) (pcN := 33) jI_379_32 rfl ?_
  refine jT_xisub (x := 5) (y := 5) (z := 0) (pcN := 34) jI_379_33 rfl (by decide) rfl ?_
  refine jT_xicT (pcN := 3746) jI_379_34 rfl (by decide +kernel) rfl ?_
  refine jT_xiconst (k := 1) (pcN := 3747) jI_379_3746 rfl ?_
  exact jT_ret rfl (by decide) (by show 58 ≤ 72; decide) (by omega) (by omega) ⟨rfl, rfl⟩
def jpA_1763 : List JC := [jzA_265, jzA_266, (101, [], [0]), jgh, (8, [(4, 30), (4, 31)], []), jgh, jgh, jgh, jgh, jgh, jgh, (101, [], [0, 0, 0, 0, 0, 0]), jgh, jzA_79, jzA_721, (100, [], jS0), (100, [], []), jzA_722, jzA_197, jgh, (130, [], [45, 46, 47, 48, 49, 50]), (101, [], [0, 0, 0, 0, 0, 0]), (100, [], (List.replicate 1792 0)), jgh, jgh, jgh, jgh, jgh, jgh, jgh, jgh, (101, [], [0, 0, 0, 0, 0, 0]), jzA_723, (117, [], [52, 53, 54, 55]), jgh, jgh, jgh, (100, [], (List.replicate 1613 0)), jgh, jgh, jgh, jgh, jgh, jgh, jgh, (100, [], (jenc (jlg 0))), jgh, jgh, jgh, jgh, jgh, (4, [(4, 56), (1, 1)], []), jgh, (7, [(4, 57), (4, (-1)), (4, (-1))], []), jgh, jgh, (101, [], [0, 0, 0, 0, 0, 0]), (114, [], [51])]
def jpA_1764 : List JC := [jzA_1750, jzA_266, (101, [], [1]), jgh, (8, [(4, 30), (4, 31)], []), jgh, jgh, jgh, jgh, jgh, jgh, (101, [], [0, 0, 0, 0, 0, 0]), jgh, jzA_327, jzA_721, (100, [], jS0), (100, [], []), jzA_722, jzA_197, jgh, (130, [], [45, 46, 47, 48, 49, 50]), (101, [], [0, 0, 0, 0, 0, 0]), (100, [], (List.replicate 1792 0)), jgh, jgh, jgh, jgh, jgh, jgh, jgh, jgh, (101, [], [0, 0, 0, 0, 0, 0]), jzA_723, (117, [], [52, 53, 54, 55]), jgh, jgh, jgh, (100, [], (List.replicate 1613 0)), jgh, jgh, jgh, jgh, jgh, jgh, jgh, (100, [], (jenc (jlg 0))), jgh, jgh, jgh, jgh, jgh, (4, [(4, 56), (1, 1)], []), jgh, (7, [(4, 57), (4, (-1)), (4, (-1))], []), jgh, jgh, (101, [], [0, 0, 0, 0, 0, 0]), (114, [], [51]), (101, [], [0, 0, 0, 0, 0, 0]), (4, [(4, 58), (1, 1)], []), (114, [], [51, (-1)]), (114, [], [51]), (7, [(4, 61), (4, (-1)), (4, (-1))], []), (117, [], [52, 62, 54, 55]), jzA_1751]
def jpA_1765 : List JC := [jzA_1750, jzA_1753, (101, [], [1]), jgh, (8, [(4, 30), (4, 31)], []), jgh, jgh, jgh, jgh, jgh, jgh, (101, [], [0, 0, 0, 0, 0, 0]), jgh, jzA_327, jzA_721, jzA_1645, (100, [], []), jzA_722, jzA_331, jgh, (130, [], [45, 46, 47, 48, 49, 50]), (101, [], [0, 0, 0, 0, 0, 0]), jzA_1539, jgh, jgh, jgh, jgh, jgh, jgh, jgh, jgh, (101, [], [0, 0, 0, 0, 0, 0]), jzA_723, (117, [], [52, 53, 54, 55]), jgh, jgh, jgh, (100, [], jS0), jgh, jgh, jgh, jgh, jgh, jgh, jgh, (100, [], (jenc (jlg 0))), jgh, jgh, jgh, jgh, jgh, (4, [(4, 56), (1, 1)], []), jgh, (7, [(4, 57), (4, (-1)), (4, (-1))], []), jgh, jgh, (101, [], [0, 0, 0, 0, 0, 0]), (114, [], [51]), (101, [], [0, 0, 0, 0, 0, 0]), (4, [(4, 58), (1, 1)], []), (114, [], [51, (-1)]), (114, [], [51]), (7, [(4, 61), (4, (-1)), (4, (-1))], []), (117, [], [52, 62, 54, 55]), jzA_1751, (101, [], [0, 0, 0, 0, 0, 0]), (101, [], [(-1), 0, 0, 0, 0, 0]), (100, [], (jenc 0)), (100, [], (jenc (-1))), (100, [], (jenc ((-1) * (jlg 0)))), (100, [], [0, 0, 0, 0, 0, 0, 1]), (101, [], [0, 0, 0, 0, 0, 0])]
set_option maxRecDepth 100000 in
theorem jL_10_3 {d : Nat} {x0 x1 x2 x3 x4 : Int} (h_x0 : (-2147483648) ≤ x0 ∧ x0 ≤ 2147483647) (h_x1 : 1 ≤ x1 ∧ x1 ≤ 1) (h_x2 : 0 ≤ x2 ∧ x2 ≤ 7) (h_x3 : (-2147483648) ≤ x3 ∧ x3 ≤ (-1)) (h_x4 : (-2147483648) ≤ x4 ∧ x4 ≤ 2147483647) : jT [x0, x1, x2, x3, x4] (d + 8) 379 58 1063 [(5, (0, 0)), (4, (4, 3)), (3, (4, 2)), (2, (4, 1)), (1, (4, 0)), (0, (6, 0))] [] jpA_1763 14 216 (fun k v hsN => k = 0 ∧ v = (0, 1)) := by
  refine jT_xaload_n (v := (4, 0)) (pcN := 1064) jI_379_1063 rfl rfl rfl ?_
  refine jT_xaload_n (v := (6, 0)) (pcN := 1065) jI_379_1064 rfl rfl rfl ?_
  refine jT_xiload (v := (0, 0)) (pcN := 1067) jI_379_1065 rfl rfl rfl ?_
  refine jT_xiconst (k := 1) (pcN := 1068) jI_379_1067 rfl ?_
  refine jT_xiadd (x := 0) (y := 1) (z := 1) (pcN := 1069) jI_379_1068 rfl (by decide) rfl ?_
  refine jT_adv 1 (pcN := 1070) (LN := [(5, (0, 0)), (4, (4, 3)), (3, (4, 2)), (2, (4, 1)), (1, (4, 0)), (0, (6, 0))]) (stN := [(0, x1), (4, 0)]) (hsN := jpA_1763) (c1 := 0) (s1 := 0) (c2 := 14) (s2 := 216) (by exact rfl) ?_ (by omega) (by omega)
  refine jT_eq (LN := [(5, (0, 0)), (4, (4, 3)), (3, (4, 2)), (2, (4, 1)), (1, (4, 0)), (0, (6, 0))]) (stN := [(0, 1), (4, 0)]) (hsN := [jzA_265, jzA_266, (101, [], [0]), jgh, (8, [(4, 30), (4, 31)], []), jgh, jgh, jgh, jgh, jgh, jgh, (101, [], [0, 0, 0, 0, 0, 0]), jgh, jzA_79, jzA_721, (100, [], jS0), (100, [], []), jzA_722, jzA_197, jgh, (130, [], [45, 46, 47, 48, 49, 50]), (101, [], [0, 0, 0, 0, 0, 0]), (100, [], (List.replicate 1792 0)), jgh, jgh, jgh, jgh, jgh, jgh, jgh, jgh, (101, [], [0, 0, 0, 0, 0, 0]), jzA_723, (117, [], [52, 53, 54, 55]), jgh, jgh, jgh, (100, [], (List.replicate 1613 0)), jgh, jgh, jgh, jgh, jgh, jgh, jgh, (100, [], (jenc (jlg 0))), jgh, jgh, jgh, jgh, jgh, (4, [(4, 56), (1, 1)], []), jgh, (7, [(4, 57), (4, (-1)), (4, (-1))], []), jgh, jgh, (101, [], [0, 0, 0, 0, 0, 0]), (114, [], [51])]) (rfl) (by simp only [List.cons.injEq, Prod.mk.injEq, and_true, true_and] <;> ((try unfold jw); (try unfold jwl); omega)) (rfl) ?_
  refine jT_xaload_n (v := (6, 0)) (pcN := 1071) jI_379_1070 rfl rfl rfl ?_
  refine jT_xiload (v := (0, 0)) (pcN := 1073) jI_379_1071 rfl rfl rfl ?_
  refine jT_xiconst (k := 2) (pcN := 1074) jI_379_1073 rfl ?_
  refine jT_xiadd (x := 0) (y := 2) (z := 2) (pcN := 1075) jI_379_1074 rfl (by decide) rfl ?_
  refine jT_adv 1 (pcN := 1076) (LN := [(5, (0, 0)), (4, (4, 3)), (3, (4, 2)), (2, (4, 1)), (1, (4, 0)), (0, (6, 0))]) (stN := [(0, x2), (0, 1), (4, 0)]) (hsN := jpA_1763) (c1 := 0) (s1 := 0) (c2 := 14) (s2 := 216) (by exact rfl) ?_ (by omega) (by omega)
  refine jT_xaload_n (v := (6, 0)) (pcN := 1077) jI_379_1076 rfl rfl rfl ?_
  refine jT_xiload (v := (0, 0)) (pcN := 1079) jI_379_1077 rfl rfl rfl ?_
  refine jT_xiconst (k := 3) (pcN := 1080) jI_379_1079 rfl ?_
  refine jT_xiadd (x := 0) (y := 3) (z := 3) (pcN := 1081) jI_379_1080 rfl (by decide) rfl ?_
  refine jT_adv 1 (pcN := 1082) (LN := [(5, (0, 0)), (4, (4, 3)), (3, (4, 2)), (2, (4, 1)), (1, (4, 0)), (0, (6, 0))]) (stN := [(0, x3), (0, x2), (0, 1), (4, 0)]) (hsN := jpA_1763) (c1 := 0) (s1 := 0) (c2 := 14) (s2 := 216) (by exact rfl) ?_ (by omega) (by omega)
  refine jT_ifF (a := x3) (t := 1089) (by rfl) (by rfl) (by rfl) (jw_idd (by omega) (by omega)) (by simp only [jcP] <;> omega) ?_
  refine jT_xiconst (k := 1) (pcN := 1086) jI_379_1085 rfl ?_
  refine jT_xgoto (pcN := 1090) jI_379_1086 rfl ?_
  refine jT_xaload_n (v := (4, 2)) (pcN := 1091) jI_379_1090 rfl rfl rfl ?_
  refine jT_fB [0, 2, 4, 5, 6, 7, 8, 9, 10, 11, 12, 13, 14, 30, 31, 32, 33, 34, 35, 36, 51, 52, 53, 54, 55, 56, 57] 58 (y := 336) (pcN := 1094) (dC := 7) (bc1 := 7) (bc2 := 23) (c1 := 7) (c2 := 193) (as := [(4, 0), (0, 1), (0, x2), (0, 1), (4, 2)]) (asC := [(4, 0), (0, 1), (0, x2), (0, 1), (4, 1)]) (LN := [(5, (0, 0)), (4, (4, 3)), (3, (4, 2)), (2, (4, 1)), (1, (4, 0)), (0, (6, 0))]) (stN := []) (hsC := jpA_1643) (hsD := jpA_1642) (v := (0, 0)) (st2 := [(0, 0)]) (hs2 := jpA_1764) (jA_336_360 (d := 0) (by omega)) (by rfl) (by rfl) (by decide +kernel) (by rfl) (by rfl) (by omega) (by omega) (by omega) (by omega) rfl (by decide +kernel) ?_
  refine jT_xistore (v := (0, 0)) (LN := [(6, (0, 0)), (5, (0, 0)), (4, (4, 3)), (3, (4, 2)), (2, (4, 1)), (1, (4, 0)), (0, (6, 0))]) (pcN := 1096) jI_379_1094 rfl rfl rfl rfl ?_
  refine jT_xaload_n (v := (4, 1)) (pcN := 1097) jI_379_1096 rfl rfl rfl ?_
  refine jT_xaload_n (v := (6, 0)) (pcN := 1098) jI_379_1097 rfl rfl rfl ?_
  refine jT_xiload (v := (0, 0)) (pcN := 1100) jI_379_1098 rfl rfl rfl ?_
  refine jT_xiconst (k := 1) (pcN := 1101) jI_379_1100 rfl ?_
  refine jT_xiadd (x := 0) (y := 1) (z := 1) (pcN := 1102) jI_379_1101 rfl (by decide) rfl ?_
  refine jT_adv 1 (pcN := 1103) (LN := [(6, (0, 0)), (5, (0, 0)), (4, (4, 3)), (3, (4, 2)), (2, (4, 1)), (1, (4, 0)), (0, (6, 0))]) (stN := [(0, x1), (4, 1)]) (hsN := jpA_1764) (c1 := 0) (s1 := 0) (c2 := 7) (s2 := 193) (by exact rfl) ?_ (by omega) (by omega)
  refine jT_eq (LN := [(6, (0, 0)), (5, (0, 0)), (4, (4, 3)), (3, (4, 2)), (2, (4, 1)), (1, (4, 0)), (0, (6, 0))]) (stN := [(0, 1), (4, 1)]) (hsN := [jzA_1750, jzA_266, (101, [], [1]), jgh, (8, [(4, 30), (4, 31)], []), jgh, jgh, jgh, jgh, jgh, jgh, (101, [], [0, 0, 0, 0, 0, 0]), jgh, jzA_327, jzA_721, (100, [], jS0), (100, [], []), jzA_722, jzA_197, jgh, (130, [], [45, 46, 47, 48, 49, 50]), (101, [], [0, 0, 0, 0, 0, 0]), (100, [], (List.replicate 1792 0)), jgh, jgh, jgh, jgh, jgh, jgh, jgh, jgh, (101, [], [0, 0, 0, 0, 0, 0]), jzA_723, (117, [], [52, 53, 54, 55]), jgh, jgh, jgh, (100, [], (List.replicate 1613 0)), jgh, jgh, jgh, jgh, jgh, jgh, jgh, (100, [], (jenc (jlg 0))), jgh, jgh, jgh, jgh, jgh, (4, [(4, 56), (1, 1)], []), jgh, (7, [(4, 57), (4, (-1)), (4, (-1))], []), jgh, jgh, (101, [], [0, 0, 0, 0, 0, 0]), (114, [], [51]), (101, [], [0, 0, 0, 0, 0, 0]), (4, [(4, 58), (1, 1)], []), (114, [], [51, (-1)]), (114, [], [51]), (7, [(4, 61), (4, (-1)), (4, (-1))], []), (117, [], [52, 62, 54, 55]), jzA_1751]) (rfl) (by simp only [List.cons.injEq, Prod.mk.injEq, and_true, true_and] <;> ((try unfold jw); (try unfold jwl); omega)) (rfl) ?_
  refine jT_xaload_n (v := (6, 0)) (pcN := 1104) jI_379_1103 rfl rfl rfl ?_
  refine jT_xiload (v := (0, 0)) (pcN := 1106) jI_379_1104 rfl rfl rfl ?_
  refine jT_xiconst (k := 2) (pcN := 1107) jI_379_1106 rfl ?_
  refine jT_xiadd (x := 0) (y := 2) (z := 2) (pcN := 1108) jI_379_1107 rfl (by decide) rfl ?_
  refine jT_adv 1 (pcN := 1109) (LN := [(6, (0, 0)), (5, (0, 0)), (4, (4, 3)), (3, (4, 2)), (2, (4, 1)), (1, (4, 0)), (0, (6, 0))]) (stN := [(0, x2), (0, 1), (4, 1)]) (hsN := jpA_1764) (c1 := 0) (s1 := 0) (c2 := 7) (s2 := 193) (by exact rfl) ?_ (by omega) (by omega)
  refine jT_xaload_n (v := (6, 0)) (pcN := 1110) jI_379_1109 rfl rfl rfl ?_
  refine jT_xiload (v := (0, 0)) (pcN := 1112) jI_379_1110 rfl rfl rfl ?_
  refine jT_xiconst (k := 3) (pcN := 1113) jI_379_1112 rfl ?_
  refine jT_xiadd (x := 0) (y := 3) (z := 3) (pcN := 1114) jI_379_1113 rfl (by decide) rfl ?_
  refine jT_adv 1 (pcN := 1115) (LN := [(6, (0, 0)), (5, (0, 0)), (4, (4, 3)), (3, (4, 2)), (2, (4, 1)), (1, (4, 0)), (0, (6, 0))]) (stN := [(0, x3), (0, x2), (0, 1), (4, 1)]) (hsN := jpA_1764) (c1 := 0) (s1 := 0) (c2 := 7) (s2 := 193) (by exact rfl) ?_ (by omega) (by omega)
  refine jT_ifF (a := x3) (t := 1122) (by rfl) (by rfl) (by rfl) (jw_idd (by omega) (by omega)) (by simp only [jcP] <;> omega) ?_
  refine jT_xiconst (k := 1) (pcN := 1119) jI_379_1118 rfl ?_
  refine jT_xgoto (pcN := 1123) jI_379_1119 rfl ?_
  refine jT_fB [1, 15, 16, 17, 18, 19, 20, 21, 22, 23, 24, 25, 26, 27, 28, 29, 37, 38, 39, 40, 41, 42, 43, 44, 45, 46, 47, 48, 49, 50] 65 (y := 243) (pcN := 1126) (dC := 7) (bc1 := 7) (bc2 := 193) (c1 := 0) (c2 := 0) (as := [(4, 1), (0, 1), (0, x2), (0, 1)]) (asC := [(4, 0), (0, 1), (0, x2), (0, 1)]) (LN := [(6, (0, 0)), (5, (0, 0)), (4, (4, 3)), (3, (4, 2)), (2, (4, 1)), (1, (4, 0)), (0, (6, 0))]) (stN := []) (hsC := jpA_1632) (hsD := jpA_1647) (v := (0, 1)) (st2 := [(0, 1)]) (hs2 := jpA_1765) (jA_243_370 (d := 0) (by omega)) (by rfl) (by rfl) (by decide +kernel) (by rfl) (by rfl) (by omega) (by omega) (by omega) (by omega) rfl (by decide +kernel) ?_
  refine jT_xistore (v := (0, 1)) (LN := [(7, (0, 1)), (6, (0, 0)), (5, (0, 0)), (4, (4, 3)), (3, (4, 2)), (2, (4, 1)), (1, (4, 0)), (0, (6, 0))]) (pcN := 1128) jI_379_1126 rfl rfl rfl rfl ?_
  refine jT_xaload_n (v := (4, 1)) (pcN := 1129) jI_379_1128 rfl rfl rfl ?_
  refine jT_fR [1, 15, 16, 17, 18, 19, 20, 21, 22, 23, 24, 25, 26, 27, 28, 29] 72 (y := 186) (pcN := 1132) (dC := 0) (bc1 := 0) (bc2 := 0) (c1 := 0) (c2 := 0) (as := [(4, 1)]) (asC := [(4, 0)]) (LN := [(7, (0, 1)), (6, (0, 0)), (5, (0, 0)), (4, (4, 3)), (3, (4, 2)), (2, (4, 1)), (1, (4, 0)), (0, (6, 0))]) (stN := []) (hsC := jpA_1633) (v := (0, 0)) (st2 := [(0, 0)]) (jA_186_355 (d := 0)) (by rfl) (by rfl) (by decide +kernel) (by rfl) (by rfl) (by omega) (by omega) (by omega) (by omega) rfl ?_
  refine jT_xiload (v := (0, 0)) (pcN := 1134) jI_379_1132 rfl rfl rfl ?_
  refine jT_xicT (pcN := 1139) jI_379_1134 rfl (by decide +kernel) rfl ?_
  refine jT_xiload (v := (0, 0)) (pcN := 1141) jI_379_1139 rfl rfl rfl ?_
  refine jT_xifF (t := 1163) (pcN := 1144) jI_379_1141 rfl (by decide +kernel) rfl rfl ?_
  refine jT_xaload_n (v := (4, 2)) (pcN := 1145) jI_379_1144 rfl rfl rfl ?_
  refine jT_xiconst (k := 0) (pcN := 1146) jI_379_1145 rfl ?_
  refine jT_lald (x := 1) (a := 2) (j := 0) (fs := []) (X := [1]) jI_379_1146 rfl rfl rfl rfl ?_
  refine jT_eq (LN := [(7, (0, 1)), (6, (0, 0)), (5, (0, 0)), (4, (4, 3)), (3, (4, 2)), (2, (4, 1)), (1, (4, 0)), (0, (6, 0))]) (stN := [(1, 1)]) (hsN := jpA_1765) rfl rfl rfl ?_
  refine jT_xiload (v := (0, 1)) (pcN := 1149) jI_379_1147 rfl rfl rfl ?_
  refine jT_xifF (t := 1156) (pcN := 1152) jI_379_1149 rfl (by decide +kernel) rfl rfl ?_
  refine jT_xlconst (z := 1) (pcN := 1153) jI_379_1152 rfl rfl ?_
  refine jT_xgoto (pcN := 1157) jI_379_1153 rfl ?_
  refine jT_lcmp (a := 1) (b := 1) (z := 0) (by rfl) (by rfl) (by decide +kernel) (by decide +kernel) (by decide) ?_
  refine jT_xifT (pcN := 1163) jI_379_1158 rfl (by decide +kernel) rfl ?_
  refine jT_xgoto (pcN := 3740) jI_379_1163 rfl ?_
  refine jT_xiinc (x := 0) (z := 5) (LN := [(5, (0, 5)), (7, (0, 1)), (6, (0, 0)), (4, (4, 3)), (3, (4, 2)), (2, (4, 1)), (1, (4, 0)), (0, (6, 0))]) (pcN := 3743) jI_379_3740 rfl rfl (by decide) rfl rfl ?_
  refine jT_xgoto (pcN := 28) jI_379_3743 rfl ?_
  refine jT_xiload (v := (0, 5)) (pcN := 30) jI_379_28 rfl rfl rfl ?_
  refine jT_xaload_n (v := (6, 0)) (pcN := 31) jI_379_30 rfl rfl rfl ?_
  refine jT_adv 1 (pcN := 32) (LN := [(5, (0, 5)), (7, (0, 1)), (6, (0, 0)), (4, (4, 3)), (3, (4, 2)), (2, (4, 1)), (1, (4, 0)), (0, (6, 0))]) (stN := [(0, 5), (0, 5)]) (hsN := jpA_1765) (c1 := 0) (s1 := 0) (c2 := 0) (s2 := 0) (by exact rfl) ?_ (by omega) (by omega)
  refine jT_xiconst (k := 5) (pcN := 33) jI_379_32 rfl ?_
  refine jT_xisub (x := 5) (y := 5) (z := 0) (pcN := 34) jI_379_33 rfl (by decide) rfl ?_
  refine jT_xicT (pcN := 3746) jI_379_34 rfl (by decide +kernel) rfl ?_
  refine jT_xiconst (k := 1) (pcN := 3747) jI_379_3746 rfl ?_
  exact jT_ret rfl (by decide) (by show 58 ≤ 72; decide) (by omega) (by omega) ⟨rfl, rfl⟩
def jpA_1766 : List JC := [jzA_265, jzA_266, (101, [], [0]), jgh, (8, [(4, 30), (4, 31)], []), jgh, jgh, jgh, jgh, jgh, jgh, (101, [], [0, 0, 0, 0, 0, 0]), jgh, jzA_79, jzA_721, (100, [], jS0), (100, [], []), jzA_722, jzA_197, jgh, (130, [], [45, 46, 47, 48, 49, 50]), (101, [], [0, 0, 0, 0, 0, 0]), (100, [], (List.replicate 1792 0)), jgh, jgh, jgh, jgh, jgh, jgh, jgh, jgh, (101, [], [0, 0, 0, 0, 0, 0]), jzA_723, (117, [], [52, 53, 54, 55]), jgh, jgh, jgh, (100, [], (List.replicate 1613 0)), jgh, jgh, jgh, jgh, jgh, jgh, jgh, (100, [], (jenc (jlg 0))), jgh, jgh, jgh, jgh, jgh, (4, [(4, 56), (1, 1)], []), jgh, jgh, (7, [(4, 57), (4, (-1)), (4, (-1))], []), jgh, (101, [], [0, 0, 0, 0, 0, 0]), (114, [], [51])]
def jpA_1767 : List JC := [jzA_1750, jzA_266, (101, [], [1]), jgh, (8, [(4, 30), (4, 31)], []), jgh, jgh, jgh, jgh, jgh, jgh, (101, [], [0, 0, 0, 0, 0, 0]), jgh, jzA_327, jzA_721, (100, [], jS0), (100, [], []), jzA_722, jzA_197, jgh, (130, [], [45, 46, 47, 48, 49, 50]), (101, [], [0, 0, 0, 0, 0, 0]), (100, [], (List.replicate 1792 0)), jgh, jgh, jgh, jgh, jgh, jgh, jgh, jgh, (101, [], [0, 0, 0, 0, 0, 0]), jzA_723, (117, [], [52, 53, 54, 55]), jgh, jgh, jgh, (100, [], (List.replicate 1613 0)), jgh, jgh, jgh, jgh, jgh, jgh, jgh, (100, [], (jenc (jlg 0))), jgh, jgh, jgh, jgh, jgh, (4, [(4, 56), (1, 1)], []), jgh, jgh, (7, [(4, 57), (4, (-1)), (4, (-1))], []), jgh, (101, [], [0, 0, 0, 0, 0, 0]), (114, [], [51]), (101, [], [0, 0, 0, 0, 0, 0]), (4, [(4, 58), (1, 1)], []), (114, [], [51, (-1)]), (114, [], [51]), (7, [(4, 61), (4, (-1)), (4, (-1))], []), (117, [], [52, 53, 62, 55]), jzA_1751]
def jpA_1768 : List JC := [jzA_1750, jzA_1753, (101, [], [1]), jgh, (8, [(4, 30), (4, 31)], []), jgh, jgh, jgh, jgh, jgh, jgh, (101, [], [0, 0, 0, 0, 0, 0]), jgh, jzA_327, jzA_721, jzA_1659, (100, [], []), jzA_722, jzA_331, jgh, (130, [], [45, 46, 47, 48, 49, 50]), (101, [], [0, 0, 0, 0, 0, 0]), jzA_1539, jgh, jgh, jgh, jgh, jgh, jgh, jgh, jgh, (101, [], [0, 0, 0, 0, 0, 0]), jzA_723, (117, [], [52, 53, 54, 55]), jgh, jgh, jgh, (100, [], jS0), jgh, jgh, jgh, jgh, jgh, jgh, jgh, (100, [], (jenc (jlg 0))), jgh, jgh, jgh, jgh, jgh, (4, [(4, 56), (1, 1)], []), jgh, jgh, (7, [(4, 57), (4, (-1)), (4, (-1))], []), jgh, (101, [], [0, 0, 0, 0, 0, 0]), (114, [], [51]), (101, [], [0, 0, 0, 0, 0, 0]), (4, [(4, 58), (1, 1)], []), (114, [], [51, (-1)]), (114, [], [51]), (7, [(4, 61), (4, (-1)), (4, (-1))], []), (117, [], [52, 53, 62, 55]), jzA_1751, (101, [], [0, 0, 0, 0, 0, 0]), (101, [], [(-1), 0, 0, 0, 0, 0]), (100, [], (jenc 0)), (100, [], (jenc (-1))), (100, [], (jenc ((-1) * (jlg 0)))), (100, [], [0, 0, 0, 0, 0, 0, 1]), (101, [], [0, 0, 0, 0, 0, 0])]
set_option maxRecDepth 100000 in
theorem jL_10_4 {d : Nat} {x0 x1 x2 x3 x4 : Int} (h_x0 : (-2147483648) ≤ x0 ∧ x0 ≤ 2147483647) (h_x1 : 2 ≤ x1 ∧ x1 ≤ 2) (h_x2 : 0 ≤ x2 ∧ x2 ≤ 7) (h_x3 : (-2147483648) ≤ x3 ∧ x3 ≤ (-1)) (h_x4 : (-2147483648) ≤ x4 ∧ x4 ≤ 2147483647) : jT [x0, x1, x2, x3, x4] (d + 8) 379 58 1063 [(5, (0, 0)), (4, (4, 3)), (3, (4, 2)), (2, (4, 1)), (1, (4, 0)), (0, (6, 0))] [] jpA_1766 14 216 (fun k v hsN => k = 0 ∧ v = (0, 1)) := by
  refine jT_xaload_n (v := (4, 0)) (pcN := 1064) jI_379_1063 rfl rfl rfl ?_
  refine jT_xaload_n (v := (6, 0)) (pcN := 1065) jI_379_1064 rfl rfl rfl ?_
  refine jT_xiload (v := (0, 0)) (pcN := 1067) jI_379_1065 rfl rfl rfl ?_
  refine jT_xiconst (k := 1) (pcN := 1068) jI_379_1067 rfl ?_
  refine jT_xiadd (x := 0) (y := 1) (z := 1) (pcN := 1069) jI_379_1068 rfl (by decide) rfl ?_
  refine jT_adv 1 (pcN := 1070) (LN := [(5, (0, 0)), (4, (4, 3)), (3, (4, 2)), (2, (4, 1)), (1, (4, 0)), (0, (6, 0))]) (stN := [(0, x1), (4, 0)]) (hsN := jpA_1766) (c1 := 0) (s1 := 0) (c2 := 14) (s2 := 216) (by exact rfl) ?_ (by omega) (by omega)
  refine jT_eq (LN := [(5, (0, 0)), (4, (4, 3)), (3, (4, 2)), (2, (4, 1)), (1, (4, 0)), (0, (6, 0))]) (stN := [(0, 2), (4, 0)]) (hsN := [jzA_265, jzA_266, (101, [], [0]), jgh, (8, [(4, 30), (4, 31)], []), jgh, jgh, jgh, jgh, jgh, jgh, (101, [], [0, 0, 0, 0, 0, 0]), jgh, jzA_79, jzA_721, (100, [], jS0), (100, [], []), jzA_722, jzA_197, jgh, (130, [], [45, 46, 47, 48, 49, 50]), (101, [], [0, 0, 0, 0, 0, 0]), (100, [], (List.replicate 1792 0)), jgh, jgh, jgh, jgh, jgh, jgh, jgh, jgh, (101, [], [0, 0, 0, 0, 0, 0]), jzA_723, (117, [], [52, 53, 54, 55]), jgh, jgh, jgh, (100, [], (List.replicate 1613 0)), jgh, jgh, jgh, jgh, jgh, jgh, jgh, (100, [], (jenc (jlg 0))), jgh, jgh, jgh, jgh, jgh, (4, [(4, 56), (1, 1)], []), jgh, jgh, (7, [(4, 57), (4, (-1)), (4, (-1))], []), jgh, (101, [], [0, 0, 0, 0, 0, 0]), (114, [], [51])]) (rfl) (by simp only [List.cons.injEq, Prod.mk.injEq, and_true, true_and] <;> ((try unfold jw); (try unfold jwl); omega)) (rfl) ?_
  refine jT_xaload_n (v := (6, 0)) (pcN := 1071) jI_379_1070 rfl rfl rfl ?_
  refine jT_xiload (v := (0, 0)) (pcN := 1073) jI_379_1071 rfl rfl rfl ?_
  refine jT_xiconst (k := 2) (pcN := 1074) jI_379_1073 rfl ?_
  refine jT_xiadd (x := 0) (y := 2) (z := 2) (pcN := 1075) jI_379_1074 rfl (by decide) rfl ?_
  refine jT_adv 1 (pcN := 1076) (LN := [(5, (0, 0)), (4, (4, 3)), (3, (4, 2)), (2, (4, 1)), (1, (4, 0)), (0, (6, 0))]) (stN := [(0, x2), (0, 2), (4, 0)]) (hsN := jpA_1766) (c1 := 0) (s1 := 0) (c2 := 14) (s2 := 216) (by exact rfl) ?_ (by omega) (by omega)
  refine jT_xaload_n (v := (6, 0)) (pcN := 1077) jI_379_1076 rfl rfl rfl ?_
  refine jT_xiload (v := (0, 0)) (pcN := 1079) jI_379_1077 rfl rfl rfl ?_
  refine jT_xiconst (k := 3) (pcN := 1080) jI_379_1079 rfl ?_
  refine jT_xiadd (x := 0) (y := 3) (z := 3) (pcN := 1081) jI_379_1080 rfl (by decide) rfl ?_
  refine jT_adv 1 (pcN := 1082) (LN := [(5, (0, 0)), (4, (4, 3)), (3, (4, 2)), (2, (4, 1)), (1, (4, 0)), (0, (6, 0))]) (stN := [(0, x3), (0, x2), (0, 2), (4, 0)]) (hsN := jpA_1766) (c1 := 0) (s1 := 0) (c2 := 14) (s2 := 216) (by exact rfl) ?_ (by omega) (by omega)
  refine jT_ifF (a := x3) (t := 1089) (by rfl) (by rfl) (by rfl) (jw_idd (by omega) (by omega)) (by simp only [jcP] <;> omega) ?_
  refine jT_xiconst (k := 1) (pcN := 1086) jI_379_1085 rfl ?_
  refine jT_xgoto (pcN := 1090) jI_379_1086 rfl ?_
  refine jT_xaload_n (v := (4, 2)) (pcN := 1091) jI_379_1090 rfl rfl rfl ?_
  refine jT_fB [0, 2, 4, 5, 6, 7, 8, 9, 10, 11, 12, 13, 14, 30, 31, 32, 33, 34, 35, 36, 51, 52, 53, 54, 55, 56, 57] 58 (y := 336) (pcN := 1094) (dC := 7) (bc1 := 7) (bc2 := 23) (c1 := 7) (c2 := 193) (as := [(4, 0), (0, 2), (0, x2), (0, 1), (4, 2)]) (asC := [(4, 0), (0, 2), (0, x2), (0, 1), (4, 1)]) (LN := [(5, (0, 0)), (4, (4, 3)), (3, (4, 2)), (2, (4, 1)), (1, (4, 0)), (0, (6, 0))]) (stN := []) (hsC := jpA_1657) (hsD := jpA_1656) (v := (0, 0)) (st2 := [(0, 0)]) (hs2 := jpA_1767) (jA_336_376 (d := 0) (by omega)) (by rfl) (by rfl) (by decide +kernel) (by rfl) (by rfl) (by omega) (by omega) (by omega) (by omega) rfl (by decide +kernel) ?_
  refine jT_xistore (v := (0, 0)) (LN := [(6, (0, 0)), (5, (0, 0)), (4, (4, 3)), (3, (4, 2)), (2, (4, 1)), (1, (4, 0)), (0, (6, 0))]) (pcN := 1096) jI_379_1094 rfl rfl rfl rfl ?_
  refine jT_xaload_n (v := (4, 1)) (pcN := 1097) jI_379_1096 rfl rfl rfl ?_
  refine jT_xaload_n (v := (6, 0)) (pcN := 1098) jI_379_1097 rfl rfl rfl ?_
  refine jT_xiload (v := (0, 0)) (pcN := 1100) jI_379_1098 rfl rfl rfl ?_
  refine jT_xiconst (k := 1) (pcN := 1101) jI_379_1100 rfl ?_
  refine jT_xiadd (x := 0) (y := 1) (z := 1) (pcN := 1102) jI_379_1101 rfl (by decide) rfl ?_
  refine jT_adv 1 (pcN := 1103) (LN := [(6, (0, 0)), (5, (0, 0)), (4, (4, 3)), (3, (4, 2)), (2, (4, 1)), (1, (4, 0)), (0, (6, 0))]) (stN := [(0, x1), (4, 1)]) (hsN := jpA_1767) (c1 := 0) (s1 := 0) (c2 := 7) (s2 := 193) (by exact rfl) ?_ (by omega) (by omega)
  refine jT_eq (LN := [(6, (0, 0)), (5, (0, 0)), (4, (4, 3)), (3, (4, 2)), (2, (4, 1)), (1, (4, 0)), (0, (6, 0))]) (stN := [(0, 2), (4, 1)]) (hsN := [jzA_1750, jzA_266, (101, [], [1]), jgh, (8, [(4, 30), (4, 31)], []), jgh, jgh, jgh, jgh, jgh, jgh, (101, [], [0, 0, 0, 0, 0, 0]), jgh, jzA_327, jzA_721, (100, [], jS0), (100, [], []), jzA_722, jzA_197, jgh, (130, [], [45, 46, 47, 48, 49, 50]), (101, [], [0, 0, 0, 0, 0, 0]), (100, [], (List.replicate 1792 0)), jgh, jgh, jgh, jgh, jgh, jgh, jgh, jgh, (101, [], [0, 0, 0, 0, 0, 0]), jzA_723, (117, [], [52, 53, 54, 55]), jgh, jgh, jgh, (100, [], (List.replicate 1613 0)), jgh, jgh, jgh, jgh, jgh, jgh, jgh, (100, [], (jenc (jlg 0))), jgh, jgh, jgh, jgh, jgh, (4, [(4, 56), (1, 1)], []), jgh, jgh, (7, [(4, 57), (4, (-1)), (4, (-1))], []), jgh, (101, [], [0, 0, 0, 0, 0, 0]), (114, [], [51]), (101, [], [0, 0, 0, 0, 0, 0]), (4, [(4, 58), (1, 1)], []), (114, [], [51, (-1)]), (114, [], [51]), (7, [(4, 61), (4, (-1)), (4, (-1))], []), (117, [], [52, 53, 62, 55]), jzA_1751]) (rfl) (by simp only [List.cons.injEq, Prod.mk.injEq, and_true, true_and] <;> ((try unfold jw); (try unfold jwl); omega)) (rfl) ?_
  refine jT_xaload_n (v := (6, 0)) (pcN := 1104) jI_379_1103 rfl rfl rfl ?_
  refine jT_xiload (v := (0, 0)) (pcN := 1106) jI_379_1104 rfl rfl rfl ?_
  refine jT_xiconst (k := 2) (pcN := 1107) jI_379_1106 rfl ?_
  refine jT_xiadd (x := 0) (y := 2) (z := 2) (pcN := 1108) jI_379_1107 rfl (by decide) rfl ?_
  refine jT_adv 1 (pcN := 1109) (LN := [(6, (0, 0)), (5, (0, 0)), (4, (4, 3)), (3, (4, 2)), (2, (4, 1)), (1, (4, 0)), (0, (6, 0))]) (stN := [(0, x2), (0, 2), (4, 1)]) (hsN := jpA_1767) (c1 := 0) (s1 := 0) (c2 := 7) (s2 := 193) (by exact rfl) ?_ (by omega) (by omega)
  refine jT_xaload_n (v := (6, 0)) (pcN := 1110) jI_379_1109 rfl rfl rfl ?_
  refine jT_xiload (v := (0, 0)) (pcN := 1112) jI_379_1110 rfl rfl rfl ?_
  refine jT_xiconst (k := 3) (pcN := 1113) jI_379_1112 rfl ?_
  refine jT_xiadd (x := 0) (y := 3) (z := 3) (pcN := 1114) jI_379_1113 rfl (by decide) rfl ?_
  refine jT_adv 1 (pcN := 1115) (LN := [(6, (0, 0)), (5, (0, 0)), (4, (4, 3)), (3, (4, 2)), (2, (4, 1)), (1, (4, 0)), (0, (6, 0))]) (stN := [(0, x3), (0, x2), (0, 2), (4, 1)]) (hsN := jpA_1767) (c1 := 0) (s1 := 0) (c2 := 7) (s2 := 193) (by exact rfl) ?_ (by omega) (by omega)
  refine jT_ifF (a := x3) (t := 1122) (by rfl) (by rfl) (by rfl) (jw_idd (by omega) (by omega)) (by simp only [jcP] <;> omega) ?_
  refine jT_xiconst (k := 1) (pcN := 1119) jI_379_1118 rfl ?_
  refine jT_xgoto (pcN := 1123) jI_379_1119 rfl ?_
  refine jT_fB [1, 15, 16, 17, 18, 19, 20, 21, 22, 23, 24, 25, 26, 27, 28, 29, 37, 38, 39, 40, 41, 42, 43, 44, 45, 46, 47, 48, 49, 50] 65 (y := 243) (pcN := 1126) (dC := 7) (bc1 := 7) (bc2 := 193) (c1 := 0) (c2 := 0) (as := [(4, 1), (0, 2), (0, x2), (0, 1)]) (asC := [(4, 0), (0, 2), (0, x2), (0, 1)]) (LN := [(6, (0, 0)), (5, (0, 0)), (4, (4, 3)), (3, (4, 2)), (2, (4, 1)), (1, (4, 0)), (0, (6, 0))]) (stN := []) (hsC := jpA_1632) (hsD := jpA_1661) (v := (0, 1)) (st2 := [(0, 1)]) (hs2 := jpA_1768) (jA_243_386 (d := 0) (by omega)) (by rfl) (by rfl) (by decide +kernel) (by rfl) (by rfl) (by omega) (by omega) (by omega) (by omega) rfl (by decide +kernel) ?_
  refine jT_xistore (v := (0, 1)) (LN := [(7, (0, 1)), (6, (0, 0)), (5, (0, 0)), (4, (4, 3)), (3, (4, 2)), (2, (4, 1)), (1, (4, 0)), (0, (6, 0))]) (pcN := 1128) jI_379_1126 rfl rfl rfl rfl ?_
  refine jT_xaload_n (v := (4, 1)) (pcN := 1129) jI_379_1128 rfl rfl rfl ?_
  refine jT_fR [1, 15, 16, 17, 18, 19, 20, 21, 22, 23, 24, 25, 26, 27, 28, 29] 72 (y := 186) (pcN := 1132) (dC := 0) (bc1 := 0) (bc2 := 0) (c1 := 0) (c2 := 0) (as := [(4, 1)]) (asC := [(4, 0)]) (LN := [(7, (0, 1)), (6, (0, 0)), (5, (0, 0)), (4, (4, 3)), (3, (4, 2)), (2, (4, 1)), (1, (4, 0)), (0, (6, 0))]) (stN := []) (hsC := jpA_1633) (v := (0, 0)) (st2 := [(0, 0)]) (jA_186_355 (d := 0)) (by rfl) (by rfl) (by decide +kernel) (by rfl) (by rfl) (by omega) (by omega) (by omega) (by omega) rfl ?_
  refine jT_xiload (v := (0, 0)) (pcN := 1134) jI_379_1132 rfl rfl rfl ?_
  refine jT_xicT (pcN := 1139) jI_379_1134 rfl (by decide +kernel) rfl ?_
  refine jT_xiload (v := (0, 0)) (pcN := 1141) jI_379_1139 rfl rfl rfl ?_
  refine jT_xifF (t := 1163) (pcN := 1144) jI_379_1141 rfl (by decide +kernel) rfl rfl ?_
  refine jT_xaload_n (v := (4, 2)) (pcN := 1145) jI_379_1144 rfl rfl rfl ?_
  refine jT_xiconst (k := 0) (pcN := 1146) jI_379_1145 rfl ?_
  refine jT_lald (x := 1) (a := 2) (j := 0) (fs := []) (X := [1]) jI_379_1146 rfl rfl rfl rfl ?_
  refine jT_eq (LN := [(7, (0, 1)), (6, (0, 0)), (5, (0, 0)), (4, (4, 3)), (3, (4, 2)), (2, (4, 1)), (1, (4, 0)), (0, (6, 0))]) (stN := [(1, 1)]) (hsN := jpA_1768) rfl rfl rfl ?_
  refine jT_xiload (v := (0, 1)) (pcN := 1149) jI_379_1147 rfl rfl rfl ?_
  refine jT_xifF (t := 1156) (pcN := 1152) jI_379_1149 rfl (by decide +kernel) rfl rfl ?_
  refine jT_xlconst (z := 1) (pcN := 1153) jI_379_1152 rfl rfl ?_
  refine jT_xgoto (pcN := 1157) jI_379_1153 rfl ?_
  refine jT_lcmp (a := 1) (b := 1) (z := 0) (by rfl) (by rfl) (by decide +kernel) (by decide +kernel) (by decide) ?_
  refine jT_xifT (pcN := 1163) jI_379_1158 rfl (by decide +kernel) rfl ?_
  refine jT_xgoto (pcN := 3740) jI_379_1163 rfl ?_
  refine jT_xiinc (x := 0) (z := 5) (LN := [(5, (0, 5)), (7, (0, 1)), (6, (0, 0)), (4, (4, 3)), (3, (4, 2)), (2, (4, 1)), (1, (4, 0)), (0, (6, 0))]) (pcN := 3743) jI_379_3740 rfl rfl (by decide) rfl rfl ?_
  refine jT_xgoto (pcN := 28) jI_379_3743 rfl ?_
  refine jT_xiload (v := (0, 5)) (pcN := 30) jI_379_28 rfl rfl rfl ?_
  refine jT_xaload_n (v := (6, 0)) (pcN := 31) jI_379_30 rfl rfl rfl ?_
  refine jT_adv 1 (pcN := 32) (LN := [(5, (0, 5)), (7, (0, 1)), (6, (0, 0)), (4, (4, 3)), (3, (4, 2)), (2, (4, 1)), (1, (4, 0)), (0, (6, 0))]) (stN := [(0, 5), (0, 5)]) (hsN := jpA_1768) (c1 := 0) (s1 := 0) (c2 := 0) (s2 := 0) (by exact rfl) ?_ (by omega) (by omega)
  refine jT_xiconst (k := 5) (pcN := 33) jI_379_32 rfl ?_
  refine jT_xisub (x := 5) (y := 5) (z := 0) (pcN := 34) jI_379_33 rfl (by decide) rfl ?_
  refine jT_xicT (pcN := 3746) jI_379_34 rfl (by decide +kernel) rfl ?_
  refine jT_xiconst (k := 1) (pcN := 3747) jI_379_3746 rfl ?_
  exact jT_ret rfl (by decide) (by show 58 ≤ 72; decide) (by omega) (by omega) ⟨rfl, rfl⟩
def jpA_1769 : List JC := [jzA_265, jzA_266, (101, [], [0]), jgh, (8, [(4, 30), (4, 31)], []), jgh, jgh, jgh, jgh, jgh, jgh, (101, [], [0, 0, 0, 0, 0, 0]), jgh, jzA_79, jzA_721, (100, [], jS0), (100, [], []), jzA_722, jzA_197, jgh, (130, [], [45, 46, 47, 48, 49, 50]), (101, [], [0, 0, 0, 0, 0, 0]), (100, [], (List.replicate 1792 0)), jgh, jgh, jgh, jgh, jgh, jgh, jgh, jgh, (101, [], [0, 0, 0, 0, 0, 0]), jzA_723, (117, [], [52, 53, 54, 55]), jgh, jgh, jgh, (100, [], (List.replicate 1613 0)), jgh, jgh, jgh, jgh, jgh, jgh, jgh, (100, [], (jenc (jlg 0))), jgh, jgh, jgh, jgh, jgh, (4, [(4, 56), (1, 1)], []), jgh, jgh, jgh, (7, [(4, 57), (4, (-1)), (4, (-1))], []), (101, [], [0, 0, 0, 0, 0, 0]), (114, [], [51])]
def jpA_1770 : List JC := [jzA_1750, jzA_266, (101, [], [1]), jgh, (8, [(4, 30), (4, 31)], []), jgh, jgh, jgh, jgh, jgh, jgh, (101, [], [0, 0, 0, 0, 0, 0]), jgh, jzA_327, jzA_721, (100, [], jS0), (100, [], []), jzA_722, jzA_197, jgh, (130, [], [45, 46, 47, 48, 49, 50]), (101, [], [0, 0, 0, 0, 0, 0]), (100, [], (List.replicate 1792 0)), jgh, jgh, jgh, jgh, jgh, jgh, jgh, jgh, (101, [], [0, 0, 0, 0, 0, 0]), jzA_723, (117, [], [52, 53, 54, 55]), jgh, jgh, jgh, (100, [], (List.replicate 1613 0)), jgh, jgh, jgh, jgh, jgh, jgh, jgh, (100, [], (jenc (jlg 0))), jgh, jgh, jgh, jgh, jgh, (4, [(4, 56), (1, 1)], []), jgh, jgh, jgh, (7, [(4, 57), (4, (-1)), (4, (-1))], []), (101, [], [0, 0, 0, 0, 0, 0]), (114, [], [51]), (101, [], [0, 0, 0, 0, 0, 0]), (4, [(4, 58), (1, 1)], []), (114, [], [51, (-1)]), (114, [], [51]), (7, [(4, 61), (4, (-1)), (4, (-1))], []), (117, [], [52, 53, 54, 62]), jzA_1751]
def jpA_1771 : List JC := [jzA_1750, jzA_1753, (101, [], [1]), jgh, (8, [(4, 30), (4, 31)], []), jgh, jgh, jgh, jgh, jgh, jgh, (101, [], [0, 0, 0, 0, 0, 0]), jgh, jzA_327, jzA_721, jzA_1673, (100, [], []), jzA_722, jzA_331, jgh, (130, [], [45, 46, 47, 48, 49, 50]), (101, [], [0, 0, 0, 0, 0, 0]), jzA_1539, jgh, jgh, jgh, jgh, jgh, jgh, jgh, jgh, (101, [], [0, 0, 0, 0, 0, 0]), jzA_723, (117, [], [52, 53, 54, 55]), jgh, jgh, jgh, (100, [], jS0), jgh, jgh, jgh, jgh, jgh, jgh, jgh, (100, [], (jenc (jlg 0))), jgh, jgh, jgh, jgh, jgh, (4, [(4, 56), (1, 1)], []), jgh, jgh, jgh, (7, [(4, 57), (4, (-1)), (4, (-1))], []), (101, [], [0, 0, 0, 0, 0, 0]), (114, [], [51]), (101, [], [0, 0, 0, 0, 0, 0]), (4, [(4, 58), (1, 1)], []), (114, [], [51, (-1)]), (114, [], [51]), (7, [(4, 61), (4, (-1)), (4, (-1))], []), (117, [], [52, 53, 54, 62]), jzA_1751, (101, [], [0, 0, 0, 0, 0, 0]), (101, [], [(-1), 0, 0, 0, 0, 0]), (100, [], (jenc 0)), (100, [], (jenc (-1))), (100, [], (jenc ((-1) * (jlg 0)))), (100, [], [0, 0, 0, 0, 0, 0, 1]), (101, [], [0, 0, 0, 0, 0, 0])]
set_option maxRecDepth 100000 in
theorem jL_10_5 {d : Nat} {x0 x1 x2 x3 x4 : Int} (h_x0 : (-2147483648) ≤ x0 ∧ x0 ≤ 2147483647) (h_x1 : 3 ≤ x1 ∧ x1 ≤ 3) (h_x2 : 0 ≤ x2 ∧ x2 ≤ 7) (h_x3 : (-2147483648) ≤ x3 ∧ x3 ≤ (-1)) (h_x4 : (-2147483648) ≤ x4 ∧ x4 ≤ 2147483647) : jT [x0, x1, x2, x3, x4] (d + 8) 379 58 1063 [(5, (0, 0)), (4, (4, 3)), (3, (4, 2)), (2, (4, 1)), (1, (4, 0)), (0, (6, 0))] [] jpA_1769 14 216 (fun k v hsN => k = 0 ∧ v = (0, 1)) := by
  refine jT_xaload_n (v := (4, 0)) (pcN := 1064) jI_379_1063 rfl rfl rfl ?_
  refine jT_xaload_n (v := (6, 0)) (pcN := 1065) jI_379_1064 rfl rfl rfl ?_
  refine jT_xiload (v := (0, 0)) (pcN := 1067) jI_379_1065 rfl rfl rfl ?_
  refine jT_xiconst (k := 1) (pcN := 1068) jI_379_1067 rfl ?_
  refine jT_xiadd (x := 0) (y := 1) (z := 1) (pcN := 1069) jI_379_1068 rfl (by decide) rfl ?_
  refine jT_adv 1 (pcN := 1070) (LN := [(5, (0, 0)), (4, (4, 3)), (3, (4, 2)), (2, (4, 1)), (1, (4, 0)), (0, (6, 0))]) (stN := [(0, x1), (4, 0)]) (hsN := jpA_1769) (c1 := 0) (s1 := 0) (c2 := 14) (s2 := 216) (by exact rfl) ?_ (by omega) (by omega)
  refine jT_eq (LN := [(5, (0, 0)), (4, (4, 3)), (3, (4, 2)), (2, (4, 1)), (1, (4, 0)), (0, (6, 0))]) (stN := [(0, 3), (4, 0)]) (hsN := [jzA_265, jzA_266, (101, [], [0]), jgh, (8, [(4, 30), (4, 31)], []), jgh, jgh, jgh, jgh, jgh, jgh, (101, [], [0, 0, 0, 0, 0, 0]), jgh, jzA_79, jzA_721, (100, [], jS0), (100, [], []), jzA_722, jzA_197, jgh, (130, [], [45, 46, 47, 48, 49, 50]), (101, [], [0, 0, 0, 0, 0, 0]), (100, [], (List.replicate 1792 0)), jgh, jgh, jgh, jgh, jgh, jgh, jgh, jgh, (101, [], [0, 0, 0, 0, 0, 0]), jzA_723, (117, [], [52, 53, 54, 55]), jgh, jgh, jgh, (100, [], (List.replicate 1613 0)), jgh, jgh, jgh, jgh, jgh, jgh, jgh, (100, [], (jenc (jlg 0))), jgh, jgh, jgh, jgh, jgh, (4, [(4, 56), (1, 1)], []), jgh, jgh, jgh, (7, [(4, 57), (4, (-1)), (4, (-1))], []), (101, [], [0, 0, 0, 0, 0, 0]), (114, [], [51])]) (rfl) (by simp only [List.cons.injEq, Prod.mk.injEq, and_true, true_and] <;> ((try unfold jw); (try unfold jwl); omega)) (rfl) ?_
  refine jT_xaload_n (v := (6, 0)) (pcN := 1071) jI_379_1070 rfl rfl rfl ?_
  refine jT_xiload (v := (0, 0)) (pcN := 1073) jI_379_1071 rfl rfl rfl ?_
  refine jT_xiconst (k := 2) (pcN := 1074) jI_379_1073 rfl ?_
  refine jT_xiadd (x := 0) (y := 2) (z := 2) (pcN := 1075) jI_379_1074 rfl (by decide) rfl ?_
  refine jT_adv 1 (pcN := 1076) (LN := [(5, (0, 0)), (4, (4, 3)), (3, (4, 2)), (2, (4, 1)), (1, (4, 0)), (0, (6, 0))]) (stN := [(0, x2), (0, 3), (4, 0)]) (hsN := jpA_1769) (c1 := 0) (s1 := 0) (c2 := 14) (s2 := 216) (by exact rfl) ?_ (by omega) (by omega)
  refine jT_xaload_n (v := (6, 0)) (pcN := 1077) jI_379_1076 rfl rfl rfl ?_
  refine jT_xiload (v := (0, 0)) (pcN := 1079) jI_379_1077 rfl rfl rfl ?_
  refine jT_xiconst (k := 3) (pcN := 1080) jI_379_1079 rfl ?_
  refine jT_xiadd (x := 0) (y := 3) (z := 3) (pcN := 1081) jI_379_1080 rfl (by decide) rfl ?_
  refine jT_adv 1 (pcN := 1082) (LN := [(5, (0, 0)), (4, (4, 3)), (3, (4, 2)), (2, (4, 1)), (1, (4, 0)), (0, (6, 0))]) (stN := [(0, x3), (0, x2), (0, 3), (4, 0)]) (hsN := jpA_1769) (c1 := 0) (s1 := 0) (c2 := 14) (s2 := 216) (by exact rfl) ?_ (by omega) (by omega)
  refine jT_ifF (a := x3) (t := 1089) (by rfl) (by rfl) (by rfl) (jw_idd (by omega) (by omega)) (by simp only [jcP] <;> omega) ?_
  refine jT_xiconst (k := 1) (pcN := 1086) jI_379_1085 rfl ?_
  refine jT_xgoto (pcN := 1090) jI_379_1086 rfl ?_
  refine jT_xaload_n (v := (4, 2)) (pcN := 1091) jI_379_1090 rfl rfl rfl ?_
  refine jT_fB [0, 2, 4, 5, 6, 7, 8, 9, 10, 11, 12, 13, 14, 30, 31, 32, 33, 34, 35, 36, 51, 52, 53, 54, 55, 56, 57] 58 (y := 336) (pcN := 1094) (dC := 7) (bc1 := 7) (bc2 := 23) (c1 := 7) (c2 := 193) (as := [(4, 0), (0, 3), (0, x2), (0, 1), (4, 2)]) (asC := [(4, 0), (0, 3), (0, x2), (0, 1), (4, 1)]) (LN := [(5, (0, 0)), (4, (4, 3)), (3, (4, 2)), (2, (4, 1)), (1, (4, 0)), (0, (6, 0))]) (stN := []) (hsC := jpA_1671) (hsD := jpA_1670) (v := (0, 0)) (st2 := [(0, 0)]) (hs2 := jpA_1770) (jA_336_391 (d := 0) (by omega)) (by rfl) (by rfl) (by decide +kernel) (by rfl) (by rfl) (by omega) (by omega) (by omega) (by omega) rfl (by decide +kernel) ?_
  refine jT_xistore (v := (0, 0)) (LN := [(6, (0, 0)), (5, (0, 0)), (4, (4, 3)), (3, (4, 2)), (2, (4, 1)), (1, (4, 0)), (0, (6, 0))]) (pcN := 1096) jI_379_1094 rfl rfl rfl rfl ?_
  refine jT_xaload_n (v := (4, 1)) (pcN := 1097) jI_379_1096 rfl rfl rfl ?_
  refine jT_xaload_n (v := (6, 0)) (pcN := 1098) jI_379_1097 rfl rfl rfl ?_
  refine jT_xiload (v := (0, 0)) (pcN := 1100) jI_379_1098 rfl rfl rfl ?_
  refine jT_xiconst (k := 1) (pcN := 1101) jI_379_1100 rfl ?_
  refine jT_xiadd (x := 0) (y := 1) (z := 1) (pcN := 1102) jI_379_1101 rfl (by decide) rfl ?_
  refine jT_adv 1 (pcN := 1103) (LN := [(6, (0, 0)), (5, (0, 0)), (4, (4, 3)), (3, (4, 2)), (2, (4, 1)), (1, (4, 0)), (0, (6, 0))]) (stN := [(0, x1), (4, 1)]) (hsN := jpA_1770) (c1 := 0) (s1 := 0) (c2 := 7) (s2 := 193) (by exact rfl) ?_ (by omega) (by omega)
  refine jT_eq (LN := [(6, (0, 0)), (5, (0, 0)), (4, (4, 3)), (3, (4, 2)), (2, (4, 1)), (1, (4, 0)), (0, (6, 0))]) (stN := [(0, 3), (4, 1)]) (hsN := [jzA_1750, jzA_266, (101, [], [1]), jgh, (8, [(4, 30), (4, 31)], []), jgh, jgh, jgh, jgh, jgh, jgh, (101, [], [0, 0, 0, 0, 0, 0]), jgh, jzA_327, jzA_721, (100, [], jS0), (100, [], []), jzA_722, jzA_197, jgh, (130, [], [45, 46, 47, 48, 49, 50]), (101, [], [0, 0, 0, 0, 0, 0]), (100, [], (List.replicate 1792 0)), jgh, jgh, jgh, jgh, jgh, jgh, jgh, jgh, (101, [], [0, 0, 0, 0, 0, 0]), jzA_723, (117, [], [52, 53, 54, 55]), jgh, jgh, jgh, (100, [], (List.replicate 1613 0)), jgh, jgh, jgh, jgh, jgh, jgh, jgh, (100, [], (jenc (jlg 0))), jgh, jgh, jgh, jgh, jgh, (4, [(4, 56), (1, 1)], []), jgh, jgh, jgh, (7, [(4, 57), (4, (-1)), (4, (-1))], []), (101, [], [0, 0, 0, 0, 0, 0]), (114, [], [51]), (101, [], [0, 0, 0, 0, 0, 0]), (4, [(4, 58), (1, 1)], []), (114, [], [51, (-1)]), (114, [], [51]), (7, [(4, 61), (4, (-1)), (4, (-1))], []), (117, [], [52, 53, 54, 62]), jzA_1751]) (rfl) (by simp only [List.cons.injEq, Prod.mk.injEq, and_true, true_and] <;> ((try unfold jw); (try unfold jwl); omega)) (rfl) ?_
  refine jT_xaload_n (v := (6, 0)) (pcN := 1104) jI_379_1103 rfl rfl rfl ?_
  refine jT_xiload (v := (0, 0)) (pcN := 1106) jI_379_1104 rfl rfl rfl ?_
  refine jT_xiconst (k := 2) (pcN := 1107) jI_379_1106 rfl ?_
  refine jT_xiadd (x := 0) (y := 2) (z := 2) (pcN := 1108) jI_379_1107 rfl (by decide) rfl ?_
  refine jT_adv 1 (pcN := 1109) (LN := [(6, (0, 0)), (5, (0, 0)), (4, (4, 3)), (3, (4, 2)), (2, (4, 1)), (1, (4, 0)), (0, (6, 0))]) (stN := [(0, x2), (0, 3), (4, 1)]) (hsN := jpA_1770) (c1 := 0) (s1 := 0) (c2 := 7) (s2 := 193) (by exact rfl) ?_ (by omega) (by omega)
  refine jT_xaload_n (v := (6, 0)) (pcN := 1110) jI_379_1109 rfl rfl rfl ?_
  refine jT_xiload (v := (0, 0)) (pcN := 1112) jI_379_1110 rfl rfl rfl ?_
  refine jT_xiconst (k := 3) (pcN := 1113) jI_379_1112 rfl ?_
  refine jT_xiadd (x := 0) (y := 3) (z := 3) (pcN := 1114) jI_379_1113 rfl (by decide) rfl ?_
  refine jT_adv 1 (pcN := 1115) (LN := [(6, (0, 0)), (5, (0, 0)), (4, (4, 3)), (3, (4, 2)), (2, (4, 1)), (1, (4, 0)), (0, (6, 0))]) (stN := [(0, x3), (0, x2), (0, 3), (4, 1)]) (hsN := jpA_1770) (c1 := 0) (s1 := 0) (c2 := 7) (s2 := 193) (by exact rfl) ?_ (by omega) (by omega)
  refine jT_ifF (a := x3) (t := 1122) (by rfl) (by rfl) (by rfl) (jw_idd (by omega) (by omega)) (by simp only [jcP] <;> omega) ?_
  refine jT_xiconst (k := 1) (pcN := 1119) jI_379_1118 rfl ?_
  refine jT_xgoto (pcN := 1123) jI_379_1119 rfl ?_
  refine jT_fB [1, 15, 16, 17, 18, 19, 20, 21, 22, 23, 24, 25, 26, 27, 28, 29, 37, 38, 39, 40, 41, 42, 43, 44, 45, 46, 47, 48, 49, 50] 65 (y := 243) (pcN := 1126) (dC := 7) (bc1 := 7) (bc2 := 193) (c1 := 0) (c2 := 0) (as := [(4, 1), (0, 3), (0, x2), (0, 1)]) (asC := [(4, 0), (0, 3), (0, x2), (0, 1)]) (LN := [(6, (0, 0)), (5, (0, 0)), (4, (4, 3)), (3, (4, 2)), (2, (4, 1)), (1, (4, 0)), (0, (6, 0))]) (stN := []) (hsC := jpA_1632) (hsD := jpA_1675) (v := (0, 1)) (st2 := [(0, 1)]) (hs2 := jpA_1771) (jA_243_401 (d := 0) (by omega)) (by rfl) (by rfl) (by decide +kernel) (by rfl) (by rfl) (by omega) (by omega) (by omega) (by omega) rfl (by decide +kernel) ?_
  refine jT_xistore (v := (0, 1)) (LN := [(7, (0, 1)), (6, (0, 0)), (5, (0, 0)), (4, (4, 3)), (3, (4, 2)), (2, (4, 1)), (1, (4, 0)), (0, (6, 0))]) (pcN := 1128) jI_379_1126 rfl rfl rfl rfl ?_
  refine jT_xaload_n (v := (4, 1)) (pcN := 1129) jI_379_1128 rfl rfl rfl ?_
  refine jT_fR [1, 15, 16, 17, 18, 19, 20, 21, 22, 23, 24, 25, 26, 27, 28, 29] 72 (y := 186) (pcN := 1132) (dC := 0) (bc1 := 0) (bc2 := 0) (c1 := 0) (c2 := 0) (as := [(4, 1)]) (asC := [(4, 0)]) (LN := [(7, (0, 1)), (6, (0, 0)), (5, (0, 0)), (4, (4, 3)), (3, (4, 2)), (2, (4, 1)), (1, (4, 0)), (0, (6, 0))]) (stN := []) (hsC := jpA_1633) (v := (0, 0)) (st2 := [(0, 0)]) (jA_186_355 (d := 0)) (by rfl) (by rfl) (by decide +kernel) (by rfl) (by rfl) (by omega) (by omega) (by omega) (by omega) rfl ?_
  refine jT_xiload (v := (0, 0)) (pcN := 1134) jI_379_1132 rfl rfl rfl ?_
  refine jT_xicT (pcN := 1139) jI_379_1134 rfl (by decide +kernel) rfl ?_
  refine jT_xiload (v := (0, 0)) (pcN := 1141) jI_379_1139 rfl rfl rfl ?_
  refine jT_xifF (t := 1163) (pcN := 1144) jI_379_1141 rfl (by decide +kernel) rfl rfl ?_
  refine jT_xaload_n (v := (4, 2)) (pcN := 1145) jI_379_1144 rfl rfl rfl ?_
  refine jT_xiconst (k := 0) (pcN := 1146) jI_379_1145 rfl ?_
  refine jT_lald (x := 1) (a := 2) (j := 0) (fs := []) (X := [1]) jI_379_1146 rfl rfl rfl rfl ?_
  refine jT_eq (LN := [(7, (0, 1)), (6, (0, 0)), (5, (0, 0)), (4, (4, 3)), (3, (4, 2)), (2, (4, 1)), (1, (4, 0)), (0, (6, 0))]) (stN := [(1, 1)]) (hsN := jpA_1771) rfl rfl rfl ?_
  refine jT_xiload (v := (0, 1)) (pcN := 1149) jI_379_1147 rfl rfl rfl ?_
  refine jT_xifF (t := 1156) (pcN := 1152) jI_379_1149 rfl (by decide +kernel) rfl rfl ?_
  refine jT_xlconst (z := 1) (pcN := 1153) jI_379_1152 rfl rfl ?_
  refine jT_xgoto (pcN := 1157) jI_379_1153 rfl ?_
  refine jT_lcmp (a := 1) (b := 1) (z := 0) (by rfl) (by rfl) (by decide +kernel) (by decide +kernel) (by decide) ?_
  refine jT_xifT (pcN := 1163) jI_379_1158 rfl (by decide +kernel) rfl ?_
  refine jT_xgoto (pcN := 3740) jI_379_1163 rfl ?_
  refine jT_xiinc (x := 0) (z := 5) (LN := [(5, (0, 5)), (7, (0, 1)), (6, (0, 0)), (4, (4, 3)), (3, (4, 2)), (2, (4, 1)), (1, (4, 0)), (0, (6, 0))]) (pcN := 3743) jI_379_3740 rfl rfl (by decide) rfl rfl ?_
  refine jT_xgoto (pcN := 28) jI_379_3743 rfl ?_
  refine jT_xiload (v := (0, 5)) (pcN := 30) jI_379_28 rfl rfl rfl ?_
  refine jT_xaload_n (v := (6, 0)) (pcN := 31) jI_379_30 rfl rfl rfl ?_
  refine jT_adv 1 (pcN := 32) (LN := [(5, (0, 5)), (7, (0, 1)), (6, (0, 0)), (4, (4, 3)), (3, (4, 2)), (2, (4, 1)), (1, (4, 0)), (0, (6, 0))]) (stN := [(0, 5), (0, 5)]) (hsN := jpA_1771) (c1 := 0) (s1 := 0) (c2 := 0) (s2 := 0) (by exact rfl) ?_ (by omega) (by omega)
  refine jT_xiconst (k := 5) (pcN := 33) jI_379_32 rfl ?_
  refine jT_xisub (x := 5) (y := 5) (z := 0) (pcN := 34) jI_379_33 rfl (by decide) rfl ?_
  refine jT_xicT (pcN := 3746) jI_379_34 rfl (by decide +kernel) rfl ?_
  refine jT_xiconst (k := 1) (pcN := 3747) jI_379_3746 rfl ?_
  exact jT_ret rfl (by decide) (by show 58 ≤ 72; decide) (by omega) (by omega) ⟨rfl, rfl⟩
set_option maxRecDepth 100000 in
theorem jL_10_6 {d : Nat} {x0 x1 x2 x3 x4 : Int} (h_x0 : (-2147483648) ≤ x0 ∧ x0 ≤ 2147483647) (h_x1 : 0 ≤ x1 ∧ x1 ≤ 3) (h_x2 : 8 ≤ x2 ∧ x2 ≤ 2147483647) (h_x3 : (-2147483648) ≤ x3 ∧ x3 ≤ (-1)) (h_x4 : (-2147483648) ≤ x4 ∧ x4 ≤ 2147483647) : jT [x0, x1, x2, x3, x4] (d + 3) 379 30 1063 [(5, (0, 0)), (4, (4, 3)), (3, (4, 2)), (2, (4, 1)), (1, (4, 0)), (0, (6, 0))] [] jpA_267 1 6 (fun k v hsN => k = 0 ∧ v = (0, 1)) := by
  refine jT_xaload_n (v := (4, 0)) (pcN := 1064) jI_379_1063 rfl rfl rfl ?_
  refine jT_xaload_n (v := (6, 0)) (pcN := 1065) jI_379_1064 rfl rfl rfl ?_
  refine jT_xiload (v := (0, 0)) (pcN := 1067) jI_379_1065 rfl rfl rfl ?_
  refine jT_xiconst (k := 1) (pcN := 1068) jI_379_1067 rfl ?_
  refine jT_xiadd (x := 0) (y := 1) (z := 1) (pcN := 1069) jI_379_1068 rfl (by decide) rfl ?_
  refine jT_adv 1 (pcN := 1070) (LN := [(5, (0, 0)), (4, (4, 3)), (3, (4, 2)), (2, (4, 1)), (1, (4, 0)), (0, (6, 0))]) (stN := [(0, x1), (4, 0)]) (hsN := jpA_267) (c1 := 0) (s1 := 0) (c2 := 1) (s2 := 6) (by exact rfl) ?_ (by omega) (by omega)
  refine jT_xaload_n (v := (6, 0)) (pcN := 1071) jI_379_1070 rfl rfl rfl ?_
  refine jT_xiload (v := (0, 0)) (pcN := 1073) jI_379_1071 rfl rfl rfl ?_
  refine jT_xiconst (k := 2) (pcN := 1074) jI_379_1073 rfl ?_
  refine jT_xiadd (x := 0) (y := 2) (z := 2) (pcN := 1075) jI_379_1074 rfl (by decide) rfl ?_
  refine jT_adv 1 (pcN := 1076) (LN := [(5, (0, 0)), (4, (4, 3)), (3, (4, 2)), (2, (4, 1)), (1, (4, 0)), (0, (6, 0))]) (stN := [(0, x2), (0, x1), (4, 0)]) (hsN := jpA_267) (c1 := 0) (s1 := 0) (c2 := 1) (s2 := 6) (by exact rfl) ?_ (by omega) (by omega)
  refine jT_xaload_n (v := (6, 0)) (pcN := 1077) jI_379_1076 rfl rfl rfl ?_
  refine jT_xiload (v := (0, 0)) (pcN := 1079) jI_379_1077 rfl rfl rfl ?_
  refine jT_xiconst (k := 3) (pcN := 1080) jI_379_1079 rfl ?_
  refine jT_xiadd (x := 0) (y := 3) (z := 3) (pcN := 1081) jI_379_1080 rfl (by decide) rfl ?_
  refine jT_adv 1 (pcN := 1082) (LN := [(5, (0, 0)), (4, (4, 3)), (3, (4, 2)), (2, (4, 1)), (1, (4, 0)), (0, (6, 0))]) (stN := [(0, x3), (0, x2), (0, x1), (4, 0)]) (hsN := jpA_267) (c1 := 0) (s1 := 0) (c2 := 1) (s2 := 6) (by exact rfl) ?_ (by omega) (by omega)
  refine jT_ifF (a := x3) (t := 1089) (by rfl) (by rfl) (by rfl) (jw_idd (by omega) (by omega)) (by simp only [jcP] <;> omega) ?_
  refine jT_xiconst (k := 1) (pcN := 1086) jI_379_1085 rfl ?_
  refine jT_xgoto (pcN := 1090) jI_379_1086 rfl ?_
  refine jT_xaload_n (v := (4, 2)) (pcN := 1091) jI_379_1090 rfl rfl rfl ?_
  refine jT_fR [0, 2, 4, 5, 6, 7, 8, 9, 10, 11, 12, 13, 14] 30 (y := 336) (pcN := 1094) (dC := 2) (bc1 := 1) (bc2 := 6) (c1 := 0) (c2 := 0) (as := [(4, 0), (0, x1), (0, x2), (0, 1), (4, 2)]) (asC := [(4, 0), (0, x1), (0, x2), (0, 1), (4, 1)]) (LN := [(5, (0, 0)), (4, (4, 3)), (3, (4, 2)), (2, (4, 1)), (1, (4, 0)), (0, (6, 0))]) (stN := []) (hsC := jpA_15) (v := (0, 1)) (st2 := [(0, 1)]) (jA_336_403 (d := 0) (by omega) (by omega)) (by rfl) (by rfl) (by decide +kernel) (by rfl) (by rfl) (by omega) (by omega) (by omega) (by omega) rfl ?_
  refine jT_xistore (v := (0, 1)) (LN := [(6, (0, 1)), (5, (0, 0)), (4, (4, 3)), (3, (4, 2)), (2, (4, 1)), (1, (4, 0)), (0, (6, 0))]) (pcN := 1096) jI_379_1094 rfl rfl rfl rfl ?_
  refine jT_xaload_n (v := (4, 1)) (pcN := 1097) jI_379_1096 rfl rfl rfl ?_
  refine jT_xaload_n (v := (6, 0)) (pcN := 1098) jI_379_1097 rfl rfl rfl ?_
  refine jT_xiload (v := (0, 0)) (pcN := 1100) jI_379_1098 rfl rfl rfl ?_
  refine jT_xiconst (k := 1) (pcN := 1101) jI_379_1100 rfl ?_
  refine jT_xiadd (x := 0) (y := 1) (z := 1) (pcN := 1102) jI_379_1101 rfl (by decide) rfl ?_
  refine jT_adv 1 (pcN := 1103) (LN := [(6, (0, 1)), (5, (0, 0)), (4, (4, 3)), (3, (4, 2)), (2, (4, 1)), (1, (4, 0)), (0, (6, 0))]) (stN := [(0, x1), (4, 1)]) (hsN := jpA_267) (c1 := 0) (s1 := 0) (c2 := 0) (s2 := 0) (by exact rfl) ?_ (by omega) (by omega)
  refine jT_xaload_n (v := (6, 0)) (pcN := 1104) jI_379_1103 rfl rfl rfl ?_
  refine jT_xiload (v := (0, 0)) (pcN := 1106) jI_379_1104 rfl rfl rfl ?_
  refine jT_xiconst (k := 2) (pcN := 1107) jI_379_1106 rfl ?_
  refine jT_xiadd (x := 0) (y := 2) (z := 2) (pcN := 1108) jI_379_1107 rfl (by decide) rfl ?_
  refine jT_adv 1 (pcN := 1109) (LN := [(6, (0, 1)), (5, (0, 0)), (4, (4, 3)), (3, (4, 2)), (2, (4, 1)), (1, (4, 0)), (0, (6, 0))]) (stN := [(0, x2), (0, x1), (4, 1)]) (hsN := jpA_267) (c1 := 0) (s1 := 0) (c2 := 0) (s2 := 0) (by exact rfl) ?_ (by omega) (by omega)
  refine jT_xaload_n (v := (6, 0)) (pcN := 1110) jI_379_1109 rfl rfl rfl ?_
  refine jT_xiload (v := (0, 0)) (pcN := 1112) jI_379_1110 rfl rfl rfl ?_
  refine jT_xiconst (k := 3) (pcN := 1113) jI_379_1112 rfl ?_
  refine jT_xiadd (x := 0) (y := 3) (z := 3) (pcN := 1114) jI_379_1113 rfl (by decide) rfl ?_
  refine jT_adv 1 (pcN := 1115) (LN := [(6, (0, 1)), (5, (0, 0)), (4, (4, 3)), (3, (4, 2)), (2, (4, 1)), (1, (4, 0)), (0, (6, 0))]) (stN := [(0, x3), (0, x2), (0, x1), (4, 1)]) (hsN := jpA_267) (c1 := 0) (s1 := 0) (c2 := 0) (s2 := 0) (by exact rfl) ?_ (by omega) (by omega)
  refine jT_ifF (a := x3) (t := 1122) (by rfl) (by rfl) (by rfl) (jw_idd (by omega) (by omega)) (by simp only [jcP] <;> omega) ?_
  refine jT_xiconst (k := 1) (pcN := 1119) jI_379_1118 rfl ?_
  refine jT_xgoto (pcN := 1123) jI_379_1119 rfl ?_
  refine jT_fB [1, 15, 16, 17, 18, 19, 20, 21, 22, 23, 24, 25, 26, 27, 28, 29] 30 (y := 243) (pcN := 1126) (dC := 2) (bc1 := 0) (bc2 := 0) (c1 := 0) (c2 := 0) (as := [(4, 1), (0, x1), (0, x2), (0, 1)]) (asC := [(4, 0), (0, x1), (0, x2), (0, 1)]) (LN := [(6, (0, 1)), (5, (0, 0)), (4, (4, 3)), (3, (4, 2)), (2, (4, 1)), (1, (4, 0)), (0, (6, 0))]) (stN := []) (hsC := jpA_22) (hsD := jpA_20) (v := (0, 0)) (st2 := [(0, 0)]) (hs2 := jpA_306) (jA_243_404 (d := 0) (by omega) (by omega)) (by rfl) (by rfl) (by decide +kernel) (by rfl) (by rfl) (by omega) (by omega) (by omega) (by omega) rfl (by decide +kernel) ?_
  refine jT_xistore (v := (0, 0)) (LN := [(7, (0, 0)), (6, (0, 1)), (5, (0, 0)), (4, (4, 3)), (3, (4, 2)), (2, (4, 1)), (1, (4, 0)), (0, (6, 0))]) (pcN := 1128) jI_379_1126 rfl rfl rfl rfl ?_
  refine jT_xaload_n (v := (4, 1)) (pcN := 1129) jI_379_1128 rfl rfl rfl ?_
  refine jT_fR [1, 15, 16, 17, 18, 19, 20, 21, 22, 23, 24, 25, 26, 27, 28, 29] 30 (y := 186) (pcN := 1132) (dC := 0) (bc1 := 0) (bc2 := 0) (c1 := 0) (c2 := 0) (as := [(4, 1)]) (asC := [(4, 0)]) (LN := [(7, (0, 0)), (6, (0, 1)), (5, (0, 0)), (4, (4, 3)), (3, (4, 2)), (2, (4, 1)), (1, (4, 0)), (0, (6, 0))]) (stN := []) (hsC := jpA_20) (v := (0, 1)) (st2 := [(0, 1)]) (jA_186_8 (d := 0)) (by rfl) (by rfl) (by decide +kernel) (by rfl) (by rfl) (by omega) (by omega) (by omega) (by omega) rfl ?_
  refine jT_xiload (v := (0, 1)) (pcN := 1134) jI_379_1132 rfl rfl rfl ?_
  refine jT_xicT (pcN := 1139) jI_379_1134 rfl (by decide +kernel) rfl ?_
  refine jT_xiload (v := (0, 1)) (pcN := 1141) jI_379_1139 rfl rfl rfl ?_
  refine jT_xifT (pcN := 1163) jI_379_1141 rfl (by decide +kernel) rfl ?_
  refine jT_xgoto (pcN := 3740) jI_379_1163 rfl ?_
  refine jT_xiinc (x := 0) (z := 5) (LN := [(5, (0, 5)), (7, (0, 0)), (6, (0, 1)), (4, (4, 3)), (3, (4, 2)), (2, (4, 1)), (1, (4, 0)), (0, (6, 0))]) (pcN := 3743) jI_379_3740 rfl rfl (by decide) rfl rfl ?_
  refine jT_xgoto (pcN := 28) jI_379_3743 rfl ?_
  refine jT_xiload (v := (0, 5)) (pcN := 30) jI_379_28 rfl rfl rfl ?_
  refine jT_xaload_n (v := (6, 0)) (pcN := 31) jI_379_30 rfl rfl rfl ?_
  refine jT_adv 1 (pcN := 32) (LN := [(5, (0, 5)), (7, (0, 0)), (6, (0, 1)), (4, (4, 3)), (3, (4, 2)), (2, (4, 1)), (1, (4, 0)), (0, (6, 0))]) (stN := [(0, 5), (0, 5)]) (hsN := jpA_306) (c1 := 0) (s1 := 0) (c2 := 0) (s2 := 0) (by exact rfl) ?_ (by omega) (by omega)
  refine jT_xiconst (k := 5) (pcN := 33) jI_379_32 rfl ?_
  refine jT_xisub (x := 5) (y := 5) (z := 0) (pcN := 34) jI_379_33 rfl (by decide) rfl ?_
  refine jT_xicT (pcN := 3746) jI_379_34 rfl (by decide +kernel) rfl ?_
  refine jT_xiconst (k := 1) (pcN := 3747) jI_379_3746 rfl ?_
  exact jT_ret rfl (by decide) (by show 30 ≤ 30; decide) (by omega) (by omega) ⟨rfl, rfl⟩
set_option maxRecDepth 100000 in
theorem jL_10_7 {d : Nat} {x0 x1 x2 x3 x4 : Int} (h_x0 : (-2147483648) ≤ x0 ∧ x0 ≤ 2147483647) (h_x1 : 4 ≤ x1 ∧ x1 ≤ 2147483647) (h_x2 : (-2147483648) ≤ x2 ∧ x2 ≤ 2147483647) (h_x3 : (-2147483648) ≤ x3 ∧ x3 ≤ (-1)) (h_x4 : (-2147483648) ≤ x4 ∧ x4 ≤ 2147483647) : jT [x0, x1, x2, x3, x4] (d + 3) 379 30 1063 [(5, (0, 0)), (4, (4, 3)), (3, (4, 2)), (2, (4, 1)), (1, (4, 0)), (0, (6, 0))] [] jpA_267 1 6 (fun k v hsN => k = 0 ∧ v = (0, 1)) := by
  refine jT_xaload_n (v := (4, 0)) (pcN := 1064) jI_379_1063 rfl rfl rfl ?_
  refine jT_xaload_n (v := (6, 0)) (pcN := 1065) jI_379_1064 rfl rfl rfl ?_
  refine jT_xiload (v := (0, 0)) (pcN := 1067) jI_379_1065 rfl rfl rfl ?_
  refine jT_xiconst (k := 1) (pcN := 1068) jI_379_1067 rfl ?_
  refine jT_xiadd (x := 0) (y := 1) (z := 1) (pcN := 1069) jI_379_1068 rfl (by decide) rfl ?_
  refine jT_adv 1 (pcN := 1070) (LN := [(5, (0, 0)), (4, (4, 3)), (3, (4, 2)), (2, (4, 1)), (1, (4, 0)), (0, (6, 0))]) (stN := [(0, x1), (4, 0)]) (hsN := jpA_267) (c1 := 0) (s1 := 0) (c2 := 1) (s2 := 6) (by exact rfl) ?_ (by omega) (by omega)
  refine jT_xaload_n (v := (6, 0)) (pcN := 1071) jI_379_1070 rfl rfl rfl ?_
  refine jT_xiload (v := (0, 0)) (pcN := 1073) jI_379_1071 rfl rfl rfl ?_
  refine jT_xiconst (k := 2) (pcN := 1074) jI_379_1073 rfl ?_
  refine jT_xiadd (x := 0) (y := 2) (z := 2) (pcN := 1075) jI_379_1074 rfl (by decide) rfl ?_
  refine jT_adv 1 (pcN := 1076) (LN := [(5, (0, 0)), (4, (4, 3)), (3, (4, 2)), (2, (4, 1)), (1, (4, 0)), (0, (6, 0))]) (stN := [(0, x2), (0, x1), (4, 0)]) (hsN := jpA_267) (c1 := 0) (s1 := 0) (c2 := 1) (s2 := 6) (by exact rfl) ?_ (by omega) (by omega)
  refine jT_xaload_n (v := (6, 0)) (pcN := 1077) jI_379_1076 rfl rfl rfl ?_
  refine jT_xiload (v := (0, 0)) (pcN := 1079) jI_379_1077 rfl rfl rfl ?_
  refine jT_xiconst (k := 3) (pcN := 1080) jI_379_1079 rfl ?_
  refine jT_xiadd (x := 0) (y := 3) (z := 3) (pcN := 1081) jI_379_1080 rfl (by decide) rfl ?_
  refine jT_adv 1 (pcN := 1082) (LN := [(5, (0, 0)), (4, (4, 3)), (3, (4, 2)), (2, (4, 1)), (1, (4, 0)), (0, (6, 0))]) (stN := [(0, x3), (0, x2), (0, x1), (4, 0)]) (hsN := jpA_267) (c1 := 0) (s1 := 0) (c2 := 1) (s2 := 6) (by exact rfl) ?_ (by omega) (by omega)
  refine jT_ifF (a := x3) (t := 1089) (by rfl) (by rfl) (by rfl) (jw_idd (by omega) (by omega)) (by simp only [jcP] <;> omega) ?_
  refine jT_xiconst (k := 1) (pcN := 1086) jI_379_1085 rfl ?_
  refine jT_xgoto (pcN := 1090) jI_379_1086 rfl ?_
  refine jT_xaload_n (v := (4, 2)) (pcN := 1091) jI_379_1090 rfl rfl rfl ?_
  refine jT_fR [0, 2, 4, 5, 6, 7, 8, 9, 10, 11, 12, 13, 14] 30 (y := 336) (pcN := 1094) (dC := 2) (bc1 := 1) (bc2 := 6) (c1 := 0) (c2 := 0) (as := [(4, 0), (0, x1), (0, x2), (0, 1), (4, 2)]) (asC := [(4, 0), (0, x1), (0, x2), (0, 1), (4, 1)]) (LN := [(5, (0, 0)), (4, (4, 3)), (3, (4, 2)), (2, (4, 1)), (1, (4, 0)), (0, (6, 0))]) (stN := []) (hsC := jpA_15) (v := (0, 1)) (st2 := [(0, 1)]) (jA_336_407 (d := 0) (by omega) (by omega)) (by rfl) (by rfl) (by decide +kernel) (by rfl) (by rfl) (by omega) (by omega) (by omega) (by omega) rfl ?_
  refine jT_xistore (v := (0, 1)) (LN := [(6, (0, 1)), (5, (0, 0)), (4, (4, 3)), (3, (4, 2)), (2, (4, 1)), (1, (4, 0)), (0, (6, 0))]) (pcN := 1096) jI_379_1094 rfl rfl rfl rfl ?_
  refine jT_xaload_n (v := (4, 1)) (pcN := 1097) jI_379_1096 rfl rfl rfl ?_
  refine jT_xaload_n (v := (6, 0)) (pcN := 1098) jI_379_1097 rfl rfl rfl ?_
  refine jT_xiload (v := (0, 0)) (pcN := 1100) jI_379_1098 rfl rfl rfl ?_
  refine jT_xiconst (k := 1) (pcN := 1101) jI_379_1100 rfl ?_
  refine jT_xiadd (x := 0) (y := 1) (z := 1) (pcN := 1102) jI_379_1101 rfl (by decide) rfl ?_
  refine jT_adv 1 (pcN := 1103) (LN := [(6, (0, 1)), (5, (0, 0)), (4, (4, 3)), (3, (4, 2)), (2, (4, 1)), (1, (4, 0)), (0, (6, 0))]) (stN := [(0, x1), (4, 1)]) (hsN := jpA_267) (c1 := 0) (s1 := 0) (c2 := 0) (s2 := 0) (by exact rfl) ?_ (by omega) (by omega)
  refine jT_xaload_n (v := (6, 0)) (pcN := 1104) jI_379_1103 rfl rfl rfl ?_
  refine jT_xiload (v := (0, 0)) (pcN := 1106) jI_379_1104 rfl rfl rfl ?_
  refine jT_xiconst (k := 2) (pcN := 1107) jI_379_1106 rfl ?_
  refine jT_xiadd (x := 0) (y := 2) (z := 2) (pcN := 1108) jI_379_1107 rfl (by decide) rfl ?_
  refine jT_adv 1 (pcN := 1109) (LN := [(6, (0, 1)), (5, (0, 0)), (4, (4, 3)), (3, (4, 2)), (2, (4, 1)), (1, (4, 0)), (0, (6, 0))]) (stN := [(0, x2), (0, x1), (4, 1)]) (hsN := jpA_267) (c1 := 0) (s1 := 0) (c2 := 0) (s2 := 0) (by exact rfl) ?_ (by omega) (by omega)
  refine jT_xaload_n (v := (6, 0)) (pcN := 1110) jI_379_1109 rfl rfl rfl ?_
  refine jT_xiload (v := (0, 0)) (pcN := 1112) jI_379_1110 rfl rfl rfl ?_
  refine jT_xiconst (k := 3) (pcN := 1113) jI_379_1112 rfl ?_
  refine jT_xiadd (x := 0) (y := 3) (z := 3) (pcN := 1114) jI_379_1113 rfl (by decide) rfl ?_
  refine jT_adv 1 (pcN := 1115) (LN := [(6, (0, 1)), (5, (0, 0)), (4, (4, 3)), (3, (4, 2)), (2, (4, 1)), (1, (4, 0)), (0, (6, 0))]) (stN := [(0, x3), (0, x2), (0, x1), (4, 1)]) (hsN := jpA_267) (c1 := 0) (s1 := 0) (c2 := 0) (s2 := 0) (by exact rfl) ?_ (by omega) (by omega)
  refine jT_ifF (a := x3) (t := 1122) (by rfl) (by rfl) (by rfl) (jw_idd (by omega) (by omega)) (by simp only [jcP] <;> omega) ?_
  refine jT_xiconst (k := 1) (pcN := 1119) jI_379_1118 rfl ?_
  refine jT_xgoto (pcN := 1123) jI_379_1119 rfl ?_
  refine jT_fB [1, 15, 16, 17, 18, 19, 20, 21, 22, 23, 24, 25, 26, 27, 28, 29] 30 (y := 243) (pcN := 1126) (dC := 2) (bc1 := 0) (bc2 := 0) (c1 := 0) (c2 := 0) (as := [(4, 1), (0, x1), (0, x2), (0, 1)]) (asC := [(4, 0), (0, x1), (0, x2), (0, 1)]) (LN := [(6, (0, 1)), (5, (0, 0)), (4, (4, 3)), (3, (4, 2)), (2, (4, 1)), (1, (4, 0)), (0, (6, 0))]) (stN := []) (hsC := jpA_22) (hsD := jpA_20) (v := (0, 0)) (st2 := [(0, 0)]) (hs2 := jpA_306) (jA_243_409 (d := 0) (by omega) (by omega)) (by rfl) (by rfl) (by decide +kernel) (by rfl) (by rfl) (by omega) (by omega) (by omega) (by omega) rfl (by decide +kernel) ?_
  refine jT_xistore (v := (0, 0)) (LN := [(7, (0, 0)), (6, (0, 1)), (5, (0, 0)), (4, (4, 3)), (3, (4, 2)), (2, (4, 1)), (1, (4, 0)), (0, (6, 0))]) (pcN := 1128) jI_379_1126 rfl rfl rfl rfl ?_
  refine jT_xaload_n (v := (4, 1)) (pcN := 1129) jI_379_1128 rfl rfl rfl ?_
  refine jT_fR [1, 15, 16, 17, 18, 19, 20, 21, 22, 23, 24, 25, 26, 27, 28, 29] 30 (y := 186) (pcN := 1132) (dC := 0) (bc1 := 0) (bc2 := 0) (c1 := 0) (c2 := 0) (as := [(4, 1)]) (asC := [(4, 0)]) (LN := [(7, (0, 0)), (6, (0, 1)), (5, (0, 0)), (4, (4, 3)), (3, (4, 2)), (2, (4, 1)), (1, (4, 0)), (0, (6, 0))]) (stN := []) (hsC := jpA_20) (v := (0, 1)) (st2 := [(0, 1)]) (jA_186_8 (d := 0)) (by rfl) (by rfl) (by decide +kernel) (by rfl) (by rfl) (by omega) (by omega) (by omega) (by omega) rfl ?_
  refine jT_xiload (v := (0, 1)) (pcN := 1134) jI_379_1132 rfl rfl rfl ?_
  refine jT_xicT (pcN := 1139) jI_379_1134 rfl (by decide +kernel) rfl ?_
  refine jT_xiload (v := (0, 1)) (pcN := 1141) jI_379_1139 rfl rfl rfl ?_
  refine jT_xifT (pcN := 1163) jI_379_1141 rfl (by decide +kernel) rfl ?_
  refine jT_xgoto (pcN := 3740) jI_379_1163 rfl ?_
  refine jT_xiinc (x := 0) (z := 5) (LN := [(5, (0, 5)), (7, (0, 0)), (6, (0, 1)), (4, (4, 3)), (3, (4, 2)), (2, (4, 1)), (1, (4, 0)), (0, (6, 0))]) (pcN := 3743) jI_379_3740 rfl rfl (by decide) rfl rfl ?_
  refine jT_xgoto (pcN := 28) jI_379_3743 rfl ?_
  refine jT_xiload (v := (0, 5)) (pcN := 30) jI_379_28 rfl rfl rfl ?_
  refine jT_xaload_n (v := (6, 0)) (pcN := 31) jI_379_30 rfl rfl rfl ?_
  refine jT_adv 1 (pcN := 32) (LN := [(5, (0, 5)), (7, (0, 0)), (6, (0, 1)), (4, (4, 3)), (3, (4, 2)), (2, (4, 1)), (1, (4, 0)), (0, (6, 0))]) (stN := [(0, 5), (0, 5)]) (hsN := jpA_306) (c1 := 0) (s1 := 0) (c2 := 0) (s2 := 0) (by exact rfl) ?_ (by omega) (by omega)
  refine jT_xiconst (k := 5) (pcN := 33) jI_379_32 rfl ?_
  refine jT_xisub (x := 5) (y := 5) (z := 0) (pcN := 34) jI_379_33 rfl (by decide) rfl ?_
  refine jT_xicT (pcN := 3746) jI_379_34 rfl (by decide +kernel) rfl ?_
  refine jT_xiconst (k := 1) (pcN := 3747) jI_379_3746 rfl ?_
  exact jT_ret rfl (by decide) (by show 30 ≤ 30; decide) (by omega) (by omega) ⟨rfl, rfl⟩
theorem jI_379_1089 : jmI (jm 379) 1089 = (.iconst 0, 1) := by rfl
theorem jI_379_1122 : jmI (jm 379) 1122 = (.iconst 0, 1) := by rfl
set_option maxRecDepth 100000 in
theorem jL_10_8 {d : Nat} {x0 x1 x2 x3 x4 : Int} (h_x0 : (-2147483648) ≤ x0 ∧ x0 ≤ 2147483647) (h_x1 : (-2147483648) ≤ x1 ∧ x1 ≤ (-1)) (h_x2 : (-2147483648) ≤ x2 ∧ x2 ≤ 2147483647) (h_x3 : 0 ≤ x3 ∧ x3 ≤ 0) (h_x4 : (-2147483648) ≤ x4 ∧ x4 ≤ 2147483647) : jT [x0, x1, x2, x3, x4] (d + 3) 379 30 1063 [(5, (0, 0)), (4, (4, 3)), (3, (4, 2)), (2, (4, 1)), (1, (4, 0)), (0, (6, 0))] [] jpA_267 1 6 (fun k v hsN => k = 0 ∧ v = (0, 1)) := by
  refine jT_xaload_n (v := (4, 0)) (pcN := 1064) jI_379_1063 rfl rfl rfl ?_
  refine jT_xaload_n (v := (6, 0)) (pcN := 1065) jI_379_1064 rfl rfl rfl ?_
  refine jT_xiload (v := (0, 0)) (pcN := 1067) jI_379_1065 rfl rfl rfl ?_
  refine jT_xiconst (k := 1) (pcN := 1068) jI_379_1067 rfl ?_
  refine jT_xiadd (x := 0) (y := 1) (z := 1) (pcN := 1069) jI_379_1068 rfl (by decide) rfl ?_
  refine jT_adv 1 (pcN := 1070) (LN := [(5, (0, 0)), (4, (4, 3)), (3, (4, 2)), (2, (4, 1)), (1, (4, 0)), (0, (6, 0))]) (stN := [(0, x1), (4, 0)]) (hsN := jpA_267) (c1 := 0) (s1 := 0) (c2 := 1) (s2 := 6) (by exact rfl) ?_ (by omega) (by omega)
  refine jT_xaload_n (v := (6, 0)) (pcN := 1071) jI_379_1070 rfl rfl rfl ?_
  refine jT_xiload (v := (0, 0)) (pcN := 1073) jI_379_1071 rfl rfl rfl ?_
  refine jT_xiconst (k := 2) (pcN := 1074) jI_379_1073 rfl ?_
  refine jT_xiadd (x := 0) (y := 2) (z := 2) (pcN := 1075) jI_379_1074 rfl (by decide) rfl ?_
  refine jT_adv 1 (pcN := 1076) (LN := [(5, (0, 0)), (4, (4, 3)), (3, (4, 2)), (2, (4, 1)), (1, (4, 0)), (0, (6, 0))]) (stN := [(0, x2), (0, x1), (4, 0)]) (hsN := jpA_267) (c1 := 0) (s1 := 0) (c2 := 1) (s2 := 6) (by exact rfl) ?_ (by omega) (by omega)
  refine jT_xaload_n (v := (6, 0)) (pcN := 1077) jI_379_1076 rfl rfl rfl ?_
  refine jT_xiload (v := (0, 0)) (pcN := 1079) jI_379_1077 rfl rfl rfl ?_
  refine jT_xiconst (k := 3) (pcN := 1080) jI_379_1079 rfl ?_
  refine jT_xiadd (x := 0) (y := 3) (z := 3) (pcN := 1081) jI_379_1080 rfl (by decide) rfl ?_
  refine jT_adv 1 (pcN := 1082) (LN := [(5, (0, 0)), (4, (4, 3)), (3, (4, 2)), (2, (4, 1)), (1, (4, 0)), (0, (6, 0))]) (stN := [(0, x3), (0, x2), (0, x1), (4, 0)]) (hsN := jpA_267) (c1 := 0) (s1 := 0) (c2 := 1) (s2 := 6) (by exact rfl) ?_ (by omega) (by omega)
  refine jT_eq (LN := [(5, (0, 0)), (4, (4, 3)), (3, (4, 2)), (2, (4, 1)), (1, (4, 0)), (0, (6, 0))]) (stN := [(0, 0), (0, x2), (0, x1), (4, 0)]) (hsN := [jzA_265, jzA_266, jgh, jgh, jgh, jgh, jgh, jgh, jgh, jgh, jgh, jgh, jgh, jgh, jgh, jgh, jgh, jgh, jgh, jgh, jgh, jgh, jgh, jgh, jgh, jgh, jgh, jgh, jgh, jgh]) (rfl) (by simp only [List.cons.injEq, Prod.mk.injEq, and_true, true_and] <;> ((try unfold jw); (try unfold jwl); omega)) (rfl) ?_
  refine jT_xifT (pcN := 1089) jI_379_1082 rfl (by decide +kernel) rfl ?_
  refine jT_xiconst (k := 0) (pcN := 1090) jI_379_1089 rfl ?_
  refine jT_xaload_n (v := (4, 2)) (pcN := 1091) jI_379_1090 rfl rfl rfl ?_
  refine jT_fR [0, 2, 4, 5, 6, 7, 8, 9, 10, 11, 12, 13, 14] 30 (y := 336) (pcN := 1094) (dC := 2) (bc1 := 1) (bc2 := 6) (c1 := 0) (c2 := 0) (as := [(4, 0), (0, x1), (0, x2), (0, 0), (4, 2)]) (asC := [(4, 0), (0, x1), (0, x2), (0, 0), (4, 1)]) (LN := [(5, (0, 0)), (4, (4, 3)), (3, (4, 2)), (2, (4, 1)), (1, (4, 0)), (0, (6, 0))]) (stN := []) (hsC := jpA_15) (v := (0, 1)) (st2 := [(0, 1)]) (jA_336_411 (d := 0) (by omega) (by omega)) (by rfl) (by rfl) (by decide +kernel) (by rfl) (by rfl) (by omega) (by omega) (by omega) (by omega) rfl ?_
  refine jT_xistore (v := (0, 1)) (LN := [(6, (0, 1)), (5, (0, 0)), (4, (4, 3)), (3, (4, 2)), (2, (4, 1)), (1, (4, 0)), (0, (6, 0))]) (pcN := 1096) jI_379_1094 rfl rfl rfl rfl ?_
  refine jT_xaload_n (v := (4, 1)) (pcN := 1097) jI_379_1096 rfl rfl rfl ?_
  refine jT_xaload_n (v := (6, 0)) (pcN := 1098) jI_379_1097 rfl rfl rfl ?_
  refine jT_xiload (v := (0, 0)) (pcN := 1100) jI_379_1098 rfl rfl rfl ?_
  refine jT_xiconst (k := 1) (pcN := 1101) jI_379_1100 rfl ?_
  refine jT_xiadd (x := 0) (y := 1) (z := 1) (pcN := 1102) jI_379_1101 rfl (by decide) rfl ?_
  refine jT_adv 1 (pcN := 1103) (LN := [(6, (0, 1)), (5, (0, 0)), (4, (4, 3)), (3, (4, 2)), (2, (4, 1)), (1, (4, 0)), (0, (6, 0))]) (stN := [(0, x1), (4, 1)]) (hsN := jpA_267) (c1 := 0) (s1 := 0) (c2 := 0) (s2 := 0) (by exact rfl) ?_ (by omega) (by omega)
  refine jT_xaload_n (v := (6, 0)) (pcN := 1104) jI_379_1103 rfl rfl rfl ?_
  refine jT_xiload (v := (0, 0)) (pcN := 1106) jI_379_1104 rfl rfl rfl ?_
  refine jT_xiconst (k := 2) (pcN := 1107) jI_379_1106 rfl ?_
  refine jT_xiadd (x := 0) (y := 2) (z := 2) (pcN := 1108) jI_379_1107 rfl (by decide) rfl ?_
  refine jT_adv 1 (pcN := 1109) (LN := [(6, (0, 1)), (5, (0, 0)), (4, (4, 3)), (3, (4, 2)), (2, (4, 1)), (1, (4, 0)), (0, (6, 0))]) (stN := [(0, x2), (0, x1), (4, 1)]) (hsN := jpA_267) (c1 := 0) (s1 := 0) (c2 := 0) (s2 := 0) (by exact rfl) ?_ (by omega) (by omega)
  refine jT_xaload_n (v := (6, 0)) (pcN := 1110) jI_379_1109 rfl rfl rfl ?_
  refine jT_xiload (v := (0, 0)) (pcN := 1112) jI_379_1110 rfl rfl rfl ?_
  refine jT_xiconst (k := 3) (pcN := 1113) jI_379_1112 rfl ?_
  refine jT_xiadd (x := 0) (y := 3) (z := 3) (pcN := 1114) jI_379_1113 rfl (by decide) rfl ?_
  refine jT_adv 1 (pcN := 1115) (LN := [(6, (0, 1)), (5, (0, 0)), (4, (4, 3)), (3, (4, 2)), (2, (4, 1)), (1, (4, 0)), (0, (6, 0))]) (stN := [(0, x3), (0, x2), (0, x1), (4, 1)]) (hsN := jpA_267) (c1 := 0) (s1 := 0) (c2 := 0) (s2 := 0) (by exact rfl) ?_ (by omega) (by omega)
  refine jT_eq (LN := [(6, (0, 1)), (5, (0, 0)), (4, (4, 3)), (3, (4, 2)), (2, (4, 1)), (1, (4, 0)), (0, (6, 0))]) (stN := [(0, 0), (0, x2), (0, x1), (4, 1)]) (hsN := [jzA_265, jzA_266, jgh, jgh, jgh, jgh, jgh, jgh, jgh, jgh, jgh, jgh, jgh, jgh, jgh, jgh, jgh, jgh, jgh, jgh, jgh, jgh, jgh, jgh, jgh, jgh, jgh, jgh, jgh, jgh]) (rfl) (by simp only [List.cons.injEq, Prod.mk.injEq, and_true, true_and] <;> ((try unfold jw); (try unfold jwl); omega)) (rfl) ?_
  refine jT_xifT (pcN := 1122) jI_379_1115 rfl (by decide +kernel) rfl ?_
  refine jT_xiconst (k := 0) (pcN := 1123) jI_379_1122 rfl ?_
  refine jT_fB [1, 15, 16, 17, 18, 19, 20, 21, 22, 23, 24, 25, 26, 27, 28, 29] 30 (y := 243) (pcN := 1126) (dC := 2) (bc1 := 0) (bc2 := 0) (c1 := 0) (c2 := 0) (as := [(4, 1), (0, x1), (0, x2), (0, 0)]) (asC := [(4, 0), (0, x1), (0, x2), (0, 0)]) (LN := [(6, (0, 1)), (5, (0, 0)), (4, (4, 3)), (3, (4, 2)), (2, (4, 1)), (1, (4, 0)), (0, (6, 0))]) (stN := []) (hsC := jpA_22) (hsD := jpA_20) (v := (0, 0)) (st2 := [(0, 0)]) (hs2 := jpA_306) (jA_243_412 (d := 0) (by omega) (by omega)) (by rfl) (by rfl) (by decide +kernel) (by rfl) (by rfl) (by omega) (by omega) (by omega) (by omega) rfl (by decide +kernel) ?_
  refine jT_xistore (v := (0, 0)) (LN := [(7, (0, 0)), (6, (0, 1)), (5, (0, 0)), (4, (4, 3)), (3, (4, 2)), (2, (4, 1)), (1, (4, 0)), (0, (6, 0))]) (pcN := 1128) jI_379_1126 rfl rfl rfl rfl ?_
  refine jT_xaload_n (v := (4, 1)) (pcN := 1129) jI_379_1128 rfl rfl rfl ?_
  refine jT_fR [1, 15, 16, 17, 18, 19, 20, 21, 22, 23, 24, 25, 26, 27, 28, 29] 30 (y := 186) (pcN := 1132) (dC := 0) (bc1 := 0) (bc2 := 0) (c1 := 0) (c2 := 0) (as := [(4, 1)]) (asC := [(4, 0)]) (LN := [(7, (0, 0)), (6, (0, 1)), (5, (0, 0)), (4, (4, 3)), (3, (4, 2)), (2, (4, 1)), (1, (4, 0)), (0, (6, 0))]) (stN := []) (hsC := jpA_20) (v := (0, 1)) (st2 := [(0, 1)]) (jA_186_8 (d := 0)) (by rfl) (by rfl) (by decide +kernel) (by rfl) (by rfl) (by omega) (by omega) (by omega) (by omega) rfl ?_
  refine jT_xiload (v := (0, 1)) (pcN := 1134) jI_379_1132 rfl rfl rfl ?_
  refine jT_xicT (pcN := 1139) jI_379_1134 rfl (by decide +kernel) rfl ?_
  refine jT_xiload (v := (0, 1)) (pcN := 1141) jI_379_1139 rfl rfl rfl ?_
  refine jT_xifT (pcN := 1163) jI_379_1141 rfl (by decide +kernel) rfl ?_
  refine jT_xgoto (pcN := 3740) jI_379_1163 rfl ?_
  refine jT_xiinc (x := 0) (z := 5) (LN := [(5, (0, 5)), (7, (0, 0)), (6, (0, 1)), (4, (4, 3)), (3, (4, 2)), (2, (4, 1)), (1, (4, 0)), (0, (6, 0))]) (pcN := 3743) jI_379_3740 rfl rfl (by decide) rfl rfl ?_
  refine jT_xgoto (pcN := 28) jI_379_3743 rfl ?_
  refine jT_xiload (v := (0, 5)) (pcN := 30) jI_379_28 rfl rfl rfl ?_
  refine jT_xaload_n (v := (6, 0)) (pcN := 31) jI_379_30 rfl rfl rfl ?_
  refine jT_adv 1 (pcN := 32) (LN := [(5, (0, 5)), (7, (0, 0)), (6, (0, 1)), (4, (4, 3)), (3, (4, 2)), (2, (4, 1)), (1, (4, 0)), (0, (6, 0))]) (stN := [(0, 5), (0, 5)]) (hsN := jpA_306) (c1 := 0) (s1 := 0) (c2 := 0) (s2 := 0) (by exact rfl) ?_ (by omega) (by omega)
  refine jT_xiconst (k := 5) (pcN := 33) jI_379_32 rfl ?_
  refine jT_xisub (x := 5) (y := 5) (z := 0) (pcN := 34) jI_379_33 rfl (by decide) rfl ?_
  refine jT_xicT (pcN := 3746) jI_379_34 rfl (by decide +kernel) rfl ?_
  refine jT_xiconst (k := 1) (pcN := 3747) jI_379_3746 rfl ?_
  exact jT_ret rfl (by decide) (by show 30 ≤ 30; decide) (by omega) (by omega) ⟨rfl, rfl⟩
set_option maxRecDepth 100000 in
theorem jL_10_9 {d : Nat} {x0 x1 x2 x3 x4 : Int} (h_x0 : (-2147483648) ≤ x0 ∧ x0 ≤ 2147483647) (h_x1 : 0 ≤ x1 ∧ x1 ≤ 3) (h_x2 : (-2147483648) ≤ x2 ∧ x2 ≤ (-1)) (h_x3 : 0 ≤ x3 ∧ x3 ≤ 0) (h_x4 : (-2147483648) ≤ x4 ∧ x4 ≤ 2147483647) : jT [x0, x1, x2, x3, x4] (d + 3) 379 30 1063 [(5, (0, 0)), (4, (4, 3)), (3, (4, 2)), (2, (4, 1)), (1, (4, 0)), (0, (6, 0))] [] jpA_267 1 6 (fun k v hsN => k = 0 ∧ v = (0, 1)) := by
  refine jT_xaload_n (v := (4, 0)) (pcN := 1064) jI_379_1063 rfl rfl rfl ?_
  refine jT_xaload_n (v := (6, 0)) (pcN := 1065) jI_379_1064 rfl rfl rfl ?_
  refine jT_xiload (v := (0, 0)) (pcN := 1067) jI_379_1065 rfl rfl rfl ?_
  refine jT_xiconst (k := 1) (pcN := 1068) jI_379_1067 rfl ?_
  refine jT_xiadd (x := 0) (y := 1) (z := 1) (pcN := 1069) jI_379_1068 rfl (by decide) rfl ?_
  refine jT_adv 1 (pcN := 1070) (LN := [(5, (0, 0)), (4, (4, 3)), (3, (4, 2)), (2, (4, 1)), (1, (4, 0)), (0, (6, 0))]) (stN := [(0, x1), (4, 0)]) (hsN := jpA_267) (c1 := 0) (s1 := 0) (c2 := 1) (s2 := 6) (by exact rfl) ?_ (by omega) (by omega)
  refine jT_xaload_n (v := (6, 0)) (pcN := 1071) jI_379_1070 rfl rfl rfl ?_
  refine jT_xiload (v := (0, 0)) (pcN := 1073) jI_379_1071 rfl rfl rfl ?_
  refine jT_xiconst (k := 2) (pcN := 1074) jI_379_1073 rfl ?_
  refine jT_xiadd (x := 0) (y := 2) (z := 2) (pcN := 1075) jI_379_1074 rfl (by decide) rfl ?_
  refine jT_adv 1 (pcN := 1076) (LN := [(5, (0, 0)), (4, (4, 3)), (3, (4, 2)), (2, (4, 1)), (1, (4, 0)), (0, (6, 0))]) (stN := [(0, x2), (0, x1), (4, 0)]) (hsN := jpA_267) (c1 := 0) (s1 := 0) (c2 := 1) (s2 := 6) (by exact rfl) ?_ (by omega) (by omega)
  refine jT_xaload_n (v := (6, 0)) (pcN := 1077) jI_379_1076 rfl rfl rfl ?_
  refine jT_xiload (v := (0, 0)) (pcN := 1079) jI_379_1077 rfl rfl rfl ?_
  refine jT_xiconst (k := 3) (pcN := 1080) jI_379_1079 rfl ?_
  refine jT_xiadd (x := 0) (y := 3) (z := 3) (pcN := 1081) jI_379_1080 rfl (by decide) rfl ?_
  refine jT_adv 1 (pcN := 1082) (LN := [(5, (0, 0)), (4, (4, 3)), (3, (4, 2)), (2, (4, 1)), (1, (4, 0)), (0, (6, 0))]) (stN := [(0, x3), (0, x2), (0, x1), (4, 0)]) (hsN := jpA_267) (c1 := 0) (s1 := 0) (c2 := 1) (s2 := 6) (by exact rfl) ?_ (by omega) (by omega)
  refine jT_eq (LN := [(5, (0, 0)), (4, (4, 3)), (3, (4, 2)), (2, (4, 1)), (1, (4, 0)), (0, (6, 0))]) (stN := [(0, 0), (0, x2), (0, x1), (4, 0)]) (hsN := [jzA_265, jzA_266, jgh, jgh, jgh, jgh, jgh, jgh, jgh, jgh, jgh, jgh, jgh, jgh, jgh, jgh, jgh, jgh, jgh, jgh, jgh, jgh, jgh, jgh, jgh, jgh, jgh, jgh, jgh, jgh]) (rfl) (by simp only [List.cons.injEq, Prod.mk.injEq, and_true, true_and] <;> ((try unfold jw); (try unfold jwl); omega)) (rfl) ?_
  refine jT_xifT (pcN := 1089) jI_379_1082 rfl (by decide +kernel) rfl ?_
  refine jT_xiconst (k := 0) (pcN := 1090) jI_379_1089 rfl ?_
  refine jT_xaload_n (v := (4, 2)) (pcN := 1091) jI_379_1090 rfl rfl rfl ?_
  refine jT_fR [0, 2, 4, 5, 6, 7, 8, 9, 10, 11, 12, 13, 14] 30 (y := 336) (pcN := 1094) (dC := 2) (bc1 := 1) (bc2 := 6) (c1 := 0) (c2 := 0) (as := [(4, 0), (0, x1), (0, x2), (0, 0), (4, 2)]) (asC := [(4, 0), (0, x1), (0, x2), (0, 0), (4, 1)]) (LN := [(5, (0, 0)), (4, (4, 3)), (3, (4, 2)), (2, (4, 1)), (1, (4, 0)), (0, (6, 0))]) (stN := []) (hsC := jpA_15) (v := (0, 1)) (st2 := [(0, 1)]) (jA_336_414 (d := 0) (by omega) (by omega)) (by rfl) (by rfl) (by decide +kernel) (by rfl) (by rfl) (by omega) (by omega) (by omega) (by omega) rfl ?_
  refine jT_xistore (v := (0, 1)) (LN := [(6, (0, 1)), (5, (0, 0)), (4, (4, 3)), (3, (4, 2)), (2, (4, 1)), (1, (4, 0)), (0, (6, 0))]) (pcN := 1096) jI_379_1094 rfl rfl rfl rfl ?_
  refine jT_xaload_n (v := (4, 1)) (pcN := 1097) jI_379_1096 rfl rfl rfl ?_
  refine jT_xaload_n (v := (6, 0)) (pcN := 1098) jI_379_1097 rfl rfl rfl ?_
  refine jT_xiload (v := (0, 0)) (pcN := 1100) jI_379_1098 rfl rfl rfl ?_
  refine jT_xiconst (k := 1) (pcN := 1101) jI_379_1100 rfl ?_
  refine jT_xiadd (x := 0) (y := 1) (z := 1) (pcN := 1102) jI_379_1101 rfl (by decide) rfl ?_
  refine jT_adv 1 (pcN := 1103) (LN := [(6, (0, 1)), (5, (0, 0)), (4, (4, 3)), (3, (4, 2)), (2, (4, 1)), (1, (4, 0)), (0, (6, 0))]) (stN := [(0, x1), (4, 1)]) (hsN := jpA_267) (c1 := 0) (s1 := 0) (c2 := 0) (s2 := 0) (by exact rfl) ?_ (by omega) (by omega)
  refine jT_xaload_n (v := (6, 0)) (pcN := 1104) jI_379_1103 rfl rfl rfl ?_
  refine jT_xiload (v := (0, 0)) (pcN := 1106) jI_379_1104 rfl rfl rfl ?_
  refine jT_xiconst (k := 2) (pcN := 1107) jI_379_1106 rfl ?_
  refine jT_xiadd (x := 0) (y := 2) (z := 2) (pcN := 1108) jI_379_1107 rfl (by decide) rfl ?_
  refine jT_adv 1 (pcN := 1109) (LN := [(6, (0, 1)), (5, (0, 0)), (4, (4, 3)), (3, (4, 2)), (2, (4, 1)), (1, (4, 0)), (0, (6, 0))]) (stN := [(0, x2), (0, x1), (4, 1)]) (hsN := jpA_267) (c1 := 0) (s1 := 0) (c2 := 0) (s2 := 0) (by exact rfl) ?_ (by omega) (by omega)
  refine jT_xaload_n (v := (6, 0)) (pcN := 1110) jI_379_1109 rfl rfl rfl ?_
  refine jT_xiload (v := (0, 0)) (pcN := 1112) jI_379_1110 rfl rfl rfl ?_
  refine jT_xiconst (k := 3) (pcN := 1113) jI_379_1112 rfl ?_
  refine jT_xiadd (x := 0) (y := 3) (z := 3) (pcN := 1114) jI_379_1113 rfl (by decide) rfl ?_
  refine jT_adv 1 (pcN := 1115) (LN := [(6, (0, 1)), (5, (0, 0)), (4, (4, 3)), (3, (4, 2)), (2, (4, 1)), (1, (4, 0)), (0, (6, 0))]) (stN := [(0, x3), (0, x2), (0, x1), (4, 1)]) (hsN := jpA_267) (c1 := 0) (s1 := 0) (c2 := 0) (s2 := 0) (by exact rfl) ?_ (by omega) (by omega)
  refine jT_eq (LN := [(6, (0, 1)), (5, (0, 0)), (4, (4, 3)), (3, (4, 2)), (2, (4, 1)), (1, (4, 0)), (0, (6, 0))]) (stN := [(0, 0), (0, x2), (0, x1), (4, 1)]) (hsN := [jzA_265, jzA_266, jgh, jgh, jgh, jgh, jgh, jgh, jgh, jgh, jgh, jgh, jgh, jgh, jgh, jgh, jgh, jgh, jgh, jgh, jgh, jgh, jgh, jgh, jgh, jgh, jgh, jgh, jgh, jgh]) (rfl) (by simp only [List.cons.injEq, Prod.mk.injEq, and_true, true_and] <;> ((try unfold jw); (try unfold jwl); omega)) (rfl) ?_
  refine jT_xifT (pcN := 1122) jI_379_1115 rfl (by decide +kernel) rfl ?_
  refine jT_xiconst (k := 0) (pcN := 1123) jI_379_1122 rfl ?_
  refine jT_fB [1, 15, 16, 17, 18, 19, 20, 21, 22, 23, 24, 25, 26, 27, 28, 29] 30 (y := 243) (pcN := 1126) (dC := 2) (bc1 := 0) (bc2 := 0) (c1 := 0) (c2 := 0) (as := [(4, 1), (0, x1), (0, x2), (0, 0)]) (asC := [(4, 0), (0, x1), (0, x2), (0, 0)]) (LN := [(6, (0, 1)), (5, (0, 0)), (4, (4, 3)), (3, (4, 2)), (2, (4, 1)), (1, (4, 0)), (0, (6, 0))]) (stN := []) (hsC := jpA_22) (hsD := jpA_20) (v := (0, 0)) (st2 := [(0, 0)]) (hs2 := jpA_306) (jA_243_415 (d := 0) (by omega) (by omega)) (by rfl) (by rfl) (by decide +kernel) (by rfl) (by rfl) (by omega) (by omega) (by omega) (by omega) rfl (by decide +kernel) ?_
  refine jT_xistore (v := (0, 0)) (LN := [(7, (0, 0)), (6, (0, 1)), (5, (0, 0)), (4, (4, 3)), (3, (4, 2)), (2, (4, 1)), (1, (4, 0)), (0, (6, 0))]) (pcN := 1128) jI_379_1126 rfl rfl rfl rfl ?_
  refine jT_xaload_n (v := (4, 1)) (pcN := 1129) jI_379_1128 rfl rfl rfl ?_
  refine jT_fR [1, 15, 16, 17, 18, 19, 20, 21, 22, 23, 24, 25, 26, 27, 28, 29] 30 (y := 186) (pcN := 1132) (dC := 0) (bc1 := 0) (bc2 := 0) (c1 := 0) (c2 := 0) (as := [(4, 1)]) (asC := [(4, 0)]) (LN := [(7, (0, 0)), (6, (0, 1)), (5, (0, 0)), (4, (4, 3)), (3, (4, 2)), (2, (4, 1)), (1, (4, 0)), (0, (6, 0))]) (stN := []) (hsC := jpA_20) (v := (0, 1)) (st2 := [(0, 1)]) (jA_186_8 (d := 0)) (by rfl) (by rfl) (by decide +kernel) (by rfl) (by rfl) (by omega) (by omega) (by omega) (by omega) rfl ?_
  refine jT_xiload (v := (0, 1)) (pcN := 1134) jI_379_1132 rfl rfl rfl ?_
  refine jT_xicT (pcN := 1139) jI_379_1134 rfl (by decide +kernel) rfl ?_
  refine jT_xiload (v := (0, 1)) (pcN := 1141) jI_379_1139 rfl rfl rfl ?_
  refine jT_xifT (pcN := 1163) jI_379_1141 rfl (by decide +kernel) rfl ?_
  refine jT_xgoto (pcN := 3740) jI_379_1163 rfl ?_
  refine jT_xiinc (x := 0) (z := 5) (LN := [(5, (0, 5)), (7, (0, 0)), (6, (0, 1)), (4, (4, 3)), (3, (4, 2)), (2, (4, 1)), (1, (4, 0)), (0, (6, 0))]) (pcN := 3743) jI_379_3740 rfl rfl (by decide) rfl rfl ?_
  refine jT_xgoto (pcN := 28) jI_379_3743 rfl ?_
  refine jT_xiload (v := (0, 5)) (pcN := 30) jI_379_28 rfl rfl rfl ?_
  refine jT_xaload_n (v := (6, 0)) (pcN := 31) jI_379_30 rfl rfl rfl ?_
  refine jT_adv 1 (pcN := 32) (LN := [(5, (0, 5)), (7, (0, 0)), (6, (0, 1)), (4, (4, 3)), (3, (4, 2)), (2, (4, 1)), (1, (4, 0)), (0, (6, 0))]) (stN := [(0, 5), (0, 5)]) (hsN := jpA_306) (c1 := 0) (s1 := 0) (c2 := 0) (s2 := 0) (by exact rfl) ?_ (by omega) (by omega)
  refine jT_xiconst (k := 5) (pcN := 33) jI_379_32 rfl ?_
  refine jT_xisub (x := 5) (y := 5) (z := 0) (pcN := 34) jI_379_33 rfl (by decide) rfl ?_
  refine jT_xicT (pcN := 3746) jI_379_34 rfl (by decide +kernel) rfl ?_
  refine jT_xiconst (k := 1) (pcN := 3747) jI_379_3746 rfl ?_
  exact jT_ret rfl (by decide) (by show 30 ≤ 30; decide) (by omega) (by omega) ⟨rfl, rfl⟩
def jpA_1774 : List JC := [jzA_265, jzA_266, jgh, jgh, (8, [(4, 30), (4, 31)], []), jgh, jgh, jgh, jgh, jgh, jgh, (101, [], [0, 0, 0, 0, 0, 0]), jgh, jgh, jzA_721, (100, [], jS0), jgh, jgh, jgh, jgh, (130, [], [37, 38, 39, 40, 41, 42]), (101, [], [0, 0, 0, 0, 0, 0]), jgh, jgh, jgh, jgh, jgh, jgh, jgh, jgh, jgh, (101, [], [0, 0, 0, 0, 0, 0]), jzA_324, (117, [], [44, 45, 46, 47]), jgh, jgh, jgh, (100, [], (jenc (jlg 0))), jgh, jgh, jgh, jgh, jgh, (4, [(4, 48), (1, 1)], []), (7, [(4, 49), (4, (-1)), (4, (-1))], []), jgh, jgh, jgh, (101, [], [0, 0, 0, 0, 0, 0]), (114, [], [43])]
def jpA_1775 : List JC := [jzA_265, jzA_266, jgh, jgh, (8, [(4, 30), (4, 31)], []), jgh, jgh, jgh, jgh, jgh, jgh, (101, [], [0, 0, 0, 0, 0, 0]), jgh, jgh, jzA_721, (100, [], jS0), jgh, jgh, jgh, jgh, (130, [], [37, 38, 39, 40, 41, 42]), (101, [], [0, 0, 0, 0, 0, 0]), jgh, jgh, jgh, jgh, jgh, jgh, jgh, jgh, jgh, (101, [], [0, 0, 0, 0, 0, 0]), jzA_324, (117, [], [44, 45, 46, 47]), jgh, jgh, jgh, (100, [], (jenc (jlg 0))), jgh, jgh, jgh, jgh, jgh, (4, [(4, 48), (1, 1)], []), (7, [(4, 49), (4, (-1)), (4, (-1))], []), jgh, jgh, jgh, (101, [], [0, 0, 0, 0, 0, 0]), (114, [], [43]), (101, [], [0, 0, 0, 0, 0, 0]), (4, [(4, 50), (1, 1)], [])]
def jpA_1776 : List JC := [jzA_265, jzA_606, jgh, jgh, (8, [(4, 30), (4, 31)], []), jgh, jgh, jgh, jgh, jgh, jgh, (101, [], [0, 0, 0, 0, 0, 0]), jgh, jgh, jzA_721, (100, [], jS0), jgh, jgh, jgh, jgh, (130, [], [37, 38, 39, 40, 41, 42]), (101, [], [0, 0, 0, 0, 0, 0]), jgh, jgh, jgh, jgh, jgh, jgh, jgh, jgh, jgh, (101, [], [0, 0, 0, 0, 0, 0]), jzA_324, (117, [], [44, 45, 46, 47]), jgh, jgh, jgh, (100, [], (jenc (jlg 0))), jgh, jgh, jgh, jgh, jgh, (4, [(4, 48), (1, 1)], []), (7, [(4, 49), (4, (-1)), (4, (-1))], []), jgh, jgh, jgh, (101, [], [0, 0, 0, 0, 0, 0]), (114, [], [43]), (101, [], [0, 0, 0, 0, 0, 0]), (4, [(4, 50), (1, 1)], []), (101, [], [0, 0, 0, 0, 0, 0]), (101, [], [(-1), 0, 0, 0, 0, 0]), (100, [], (jenc 0)), (100, [], (jenc (-1))), (100, [], (jenc ((-1) * (jlg 0))))]
set_option maxRecDepth 100000 in
theorem jL_10_10 {d : Nat} {x0 x1 x2 x3 x4 : Int} (h_x0 : (-2147483648) ≤ x0 ∧ x0 ≤ 2147483647) (h_x1 : 0 ≤ x1 ∧ x1 ≤ 0) (h_x2 : 0 ≤ x2 ∧ x2 ≤ 7) (h_x3 : 0 ≤ x3 ∧ x3 ≤ 0) (h_x4 : (-2147483648) ≤ x4 ∧ x4 ≤ 2147483647) : jT [x0, x1, x2, x3, x4] (d + 8) 379 50 1063 [(5, (0, 0)), (4, (4, 3)), (3, (4, 2)), (2, (4, 1)), (1, (4, 0)), (0, (6, 0))] [] jpA_1774 8 194 (fun k v hsN => k = 0 ∧ v = (0, 1)) := by
  refine jT_xaload_n (v := (4, 0)) (pcN := 1064) jI_379_1063 rfl rfl rfl ?_
  refine jT_xaload_n (v := (6, 0)) (pcN := 1065) jI_379_1064 rfl rfl rfl ?_
  refine jT_xiload (v := (0, 0)) (pcN := 1067) jI_379_1065 rfl rfl rfl ?_
  refine jT_xiconst (k := 1) (pcN := 1068) jI_379_1067 rfl ?_
  refine jT_xiadd (x := 0) (y := 1) (z := 1) (pcN := 1069) jI_379_1068 rfl (by decide) rfl ?_
  refine jT_adv 1 (pcN := 1070) (LN := [(5, (0, 0)), (4, (4, 3)), (3, (4, 2)), (2, (4, 1)), (1, (4, 0)), (0, (6, 0))]) (stN := [(0, x1), (4, 0)]) (hsN := jpA_1774) (c1 := 0) (s1 := 0) (c2 := 8) (s2 := 194) (by exact rfl) ?_ (by omega) (by omega)
  refine jT_eq (LN := [(5, (0, 0)), (4, (4, 3)), (3, (4, 2)), (2, (4, 1)), (1, (4, 0)), (0, (6, 0))]) (stN := [(0, 0), (4, 0)]) (hsN := [jzA_265, jzA_266, jgh, jgh, (8, [(4, 30), (4, 31)], []), jgh, jgh, jgh, jgh, jgh, jgh, (101, [], [0, 0, 0, 0, 0, 0]), jgh, jgh, jzA_721, (100, [], jS0), jgh, jgh, jgh, jgh, (130, [], [37, 38, 39, 40, 41, 42]), (101, [], [0, 0, 0, 0, 0, 0]), jgh, jgh, jgh, jgh, jgh, jgh, jgh, jgh, jgh, (101, [], [0, 0, 0, 0, 0, 0]), jzA_324, (117, [], [44, 45, 46, 47]), jgh, jgh, jgh, (100, [], (jenc (jlg 0))), jgh, jgh, jgh, jgh, jgh, (4, [(4, 48), (1, 1)], []), (7, [(4, 49), (4, (-1)), (4, (-1))], []), jgh, jgh, jgh, (101, [], [0, 0, 0, 0, 0, 0]), (114, [], [43])]) (rfl) (by simp only [List.cons.injEq, Prod.mk.injEq, and_true, true_and] <;> ((try unfold jw); (try unfold jwl); omega)) (rfl) ?_
  refine jT_xaload_n (v := (6, 0)) (pcN := 1071) jI_379_1070 rfl rfl rfl ?_
  refine jT_xiload (v := (0, 0)) (pcN := 1073) jI_379_1071 rfl rfl rfl ?_
  refine jT_xiconst (k := 2) (pcN := 1074) jI_379_1073 rfl ?_
  refine jT_xiadd (x := 0) (y := 2) (z := 2) (pcN := 1075) jI_379_1074 rfl (by decide) rfl ?_
  refine jT_adv 1 (pcN := 1076) (LN := [(5, (0, 0)), (4, (4, 3)), (3, (4, 2)), (2, (4, 1)), (1, (4, 0)), (0, (6, 0))]) (stN := [(0, x2), (0, 0), (4, 0)]) (hsN := jpA_1774) (c1 := 0) (s1 := 0) (c2 := 8) (s2 := 194) (by exact rfl) ?_ (by omega) (by omega)
  refine jT_xaload_n (v := (6, 0)) (pcN := 1077) jI_379_1076 rfl rfl rfl ?_
  refine jT_xiload (v := (0, 0)) (pcN := 1079) jI_379_1077 rfl rfl rfl ?_
  refine jT_xiconst (k := 3) (pcN := 1080) jI_379_1079 rfl ?_
  refine jT_xiadd (x := 0) (y := 3) (z := 3) (pcN := 1081) jI_379_1080 rfl (by decide) rfl ?_
  refine jT_adv 1 (pcN := 1082) (LN := [(5, (0, 0)), (4, (4, 3)), (3, (4, 2)), (2, (4, 1)), (1, (4, 0)), (0, (6, 0))]) (stN := [(0, x3), (0, x2), (0, 0), (4, 0)]) (hsN := jpA_1774) (c1 := 0) (s1 := 0) (c2 := 8) (s2 := 194) (by exact rfl) ?_ (by omega) (by omega)
  refine jT_eq (LN := [(5, (0, 0)), (4, (4, 3)), (3, (4, 2)), (2, (4, 1)), (1, (4, 0)), (0, (6, 0))]) (stN := [(0, 0), (0, x2), (0, 0), (4, 0)]) (hsN := [jzA_265, jzA_266, jgh, jgh, (8, [(4, 30), (4, 31)], []), jgh, jgh, jgh, jgh, jgh, jgh, (101, [], [0, 0, 0, 0, 0, 0]), jgh, jgh, jzA_721, (100, [], jS0), jgh, jgh, jgh, jgh, (130, [], [37, 38, 39, 40, 41, 42]), (101, [], [0, 0, 0, 0, 0, 0]), jgh, jgh, jgh, jgh, jgh, jgh, jgh, jgh, jgh, (101, [], [0, 0, 0, 0, 0, 0]), jzA_324, (117, [], [44, 45, 46, 47]), jgh, jgh, jgh, (100, [], (jenc (jlg 0))), jgh, jgh, jgh, jgh, jgh, (4, [(4, 48), (1, 1)], []), (7, [(4, 49), (4, (-1)), (4, (-1))], []), jgh, jgh, jgh, (101, [], [0, 0, 0, 0, 0, 0]), (114, [], [43])]) (rfl) (by simp only [List.cons.injEq, Prod.mk.injEq, and_true, true_and] <;> ((try unfold jw); (try unfold jwl); omega)) (rfl) ?_
  refine jT_xifT (pcN := 1089) jI_379_1082 rfl (by decide +kernel) rfl ?_
  refine jT_xiconst (k := 0) (pcN := 1090) jI_379_1089 rfl ?_
  refine jT_xaload_n (v := (4, 2)) (pcN := 1091) jI_379_1090 rfl rfl rfl ?_
  refine jT_fA [0, 2, 4, 5, 6, 7, 8, 9, 10, 11, 12, 13, 14, 30, 31, 32, 33, 34, 35, 36, 43, 44, 45, 46, 47, 48, 49] 50 (y := 336) (pcN := 1094) (dC := 6) (bc1 := 3) (bc2 := 14) (c1 := 5) (c2 := 180) (as := [(4, 0), (0, 0), (0, x2), (0, 0), (4, 2)]) (asC := [(4, 0), (0, 0), (0, x2), (0, 0), (4, 1)]) (LN := [(5, (0, 0)), (4, (4, 3)), (3, (4, 2)), (2, (4, 1)), (1, (4, 0)), (0, (6, 0))]) (stN := []) (hsC := jpA_1684) (ex := [(101, [], [0, 0, 0, 0, 0, 0]), (4, [(4, 27), (1, 1)], [])]) (v := (0, 2)) (st2 := [(0, 2)]) (hs2 := jpA_1775) (jA_336_418 (d := 0) (by omega)) (by rfl) (by rfl) (by decide +kernel) (by rfl) (by rfl) (by omega) (by omega) (by omega) (by omega) rfl (by decide +kernel) ?_
  refine jT_xistore (v := (0, 2)) (LN := [(6, (0, 2)), (5, (0, 0)), (4, (4, 3)), (3, (4, 2)), (2, (4, 1)), (1, (4, 0)), (0, (6, 0))]) (pcN := 1096) jI_379_1094 rfl rfl rfl rfl ?_
  refine jT_xaload_n (v := (4, 1)) (pcN := 1097) jI_379_1096 rfl rfl rfl ?_
  refine jT_xaload_n (v := (6, 0)) (pcN := 1098) jI_379_1097 rfl rfl rfl ?_
  refine jT_xiload (v := (0, 0)) (pcN := 1100) jI_379_1098 rfl rfl rfl ?_
  refine jT_xiconst (k := 1) (pcN := 1101) jI_379_1100 rfl ?_
  refine jT_xiadd (x := 0) (y := 1) (z := 1) (pcN := 1102) jI_379_1101 rfl (by decide) rfl ?_
  refine jT_adv 1 (pcN := 1103) (LN := [(6, (0, 2)), (5, (0, 0)), (4, (4, 3)), (3, (4, 2)), (2, (4, 1)), (1, (4, 0)), (0, (6, 0))]) (stN := [(0, x1), (4, 1)]) (hsN := jpA_1775) (c1 := 0) (s1 := 0) (c2 := 5) (s2 := 180) (by exact rfl) ?_ (by omega) (by omega)
  refine jT_eq (LN := [(6, (0, 2)), (5, (0, 0)), (4, (4, 3)), (3, (4, 2)), (2, (4, 1)), (1, (4, 0)), (0, (6, 0))]) (stN := [(0, 0), (4, 1)]) (hsN := [jzA_265, jzA_266, jgh, jgh, (8, [(4, 30), (4, 31)], []), jgh, jgh, jgh, jgh, jgh, jgh, (101, [], [0, 0, 0, 0, 0, 0]), jgh, jgh, jzA_721, (100, [], jS0), jgh, jgh, jgh, jgh, (130, [], [37, 38, 39, 40, 41, 42]), (101, [], [0, 0, 0, 0, 0, 0]), jgh, jgh, jgh, jgh, jgh, jgh, jgh, jgh, jgh, (101, [], [0, 0, 0, 0, 0, 0]), jzA_324, (117, [], [44, 45, 46, 47]), jgh, jgh, jgh, (100, [], (jenc (jlg 0))), jgh, jgh, jgh, jgh, jgh, (4, [(4, 48), (1, 1)], []), (7, [(4, 49), (4, (-1)), (4, (-1))], []), jgh, jgh, jgh, (101, [], [0, 0, 0, 0, 0, 0]), (114, [], [43]), (101, [], [0, 0, 0, 0, 0, 0]), (4, [(4, 50), (1, 1)], [])]) (rfl) (by simp only [List.cons.injEq, Prod.mk.injEq, and_true, true_and] <;> ((try unfold jw); (try unfold jwl); omega)) (rfl) ?_
  refine jT_xaload_n (v := (6, 0)) (pcN := 1104) jI_379_1103 rfl rfl rfl ?_
  refine jT_xiload (v := (0, 0)) (pcN := 1106) jI_379_1104 rfl rfl rfl ?_
  refine jT_xiconst (k := 2) (pcN := 1107) jI_379_1106 rfl ?_
  refine jT_xiadd (x := 0) (y := 2) (z := 2) (pcN := 1108) jI_379_1107 rfl (by decide) rfl ?_
  refine jT_adv 1 (pcN := 1109) (LN := [(6, (0, 2)), (5, (0, 0)), (4, (4, 3)), (3, (4, 2)), (2, (4, 1)), (1, (4, 0)), (0, (6, 0))]) (stN := [(0, x2), (0, 0), (4, 1)]) (hsN := jpA_1775) (c1 := 0) (s1 := 0) (c2 := 5) (s2 := 180) (by exact rfl) ?_ (by omega) (by omega)
  refine jT_xaload_n (v := (6, 0)) (pcN := 1110) jI_379_1109 rfl rfl rfl ?_
  refine jT_xiload (v := (0, 0)) (pcN := 1112) jI_379_1110 rfl rfl rfl ?_
  refine jT_xiconst (k := 3) (pcN := 1113) jI_379_1112 rfl ?_
  refine jT_xiadd (x := 0) (y := 3) (z := 3) (pcN := 1114) jI_379_1113 rfl (by decide) rfl ?_
  refine jT_adv 1 (pcN := 1115) (LN := [(6, (0, 2)), (5, (0, 0)), (4, (4, 3)), (3, (4, 2)), (2, (4, 1)), (1, (4, 0)), (0, (6, 0))]) (stN := [(0, x3), (0, x2), (0, 0), (4, 1)]) (hsN := jpA_1775) (c1 := 0) (s1 := 0) (c2 := 5) (s2 := 180) (by exact rfl) ?_ (by omega) (by omega)
  refine jT_eq (LN := [(6, (0, 2)), (5, (0, 0)), (4, (4, 3)), (3, (4, 2)), (2, (4, 1)), (1, (4, 0)), (0, (6, 0))]) (stN := [(0, 0), (0, x2), (0, 0), (4, 1)]) (hsN := [jzA_265, jzA_266, jgh, jgh, (8, [(4, 30), (4, 31)], []), jgh, jgh, jgh, jgh, jgh, jgh, (101, [], [0, 0, 0, 0, 0, 0]), jgh, jgh, jzA_721, (100, [], jS0), jgh, jgh, jgh, jgh, (130, [], [37, 38, 39, 40, 41, 42]), (101, [], [0, 0, 0, 0, 0, 0]), jgh, jgh, jgh, jgh, jgh, jgh, jgh, jgh, jgh, (101, [], [0, 0, 0, 0, 0, 0]), jzA_324, (117, [], [44, 45, 46, 47]), jgh, jgh, jgh, (100, [], (jenc (jlg 0))), jgh, jgh, jgh, jgh, jgh, (4, [(4, 48), (1, 1)], []), (7, [(4, 49), (4, (-1)), (4, (-1))], []), jgh, jgh, jgh, (101, [], [0, 0, 0, 0, 0, 0]), (114, [], [43]), (101, [], [0, 0, 0, 0, 0, 0]), (4, [(4, 50), (1, 1)], [])]) (rfl) (by simp only [List.cons.injEq, Prod.mk.injEq, and_true, true_and] <;> ((try unfold jw); (try unfold jwl); omega)) (rfl) ?_
  refine jT_xifT (pcN := 1122) jI_379_1115 rfl (by decide +kernel) rfl ?_
  refine jT_xiconst (k := 0) (pcN := 1123) jI_379_1122 rfl ?_
  refine jT_fB [1, 15, 16, 17, 18, 19, 20, 21, 22, 23, 24, 25, 26, 27, 28, 29, 37, 38, 39, 40, 41, 42] 52 (y := 243) (pcN := 1126) (dC := 7) (bc1 := 5) (bc2 := 180) (c1 := 0) (c2 := 0) (as := [(4, 1), (0, 0), (0, x2), (0, 0)]) (asC := [(4, 0), (0, 0), (0, x2), (0, 0)]) (LN := [(6, (0, 2)), (5, (0, 0)), (4, (4, 3)), (3, (4, 2)), (2, (4, 1)), (1, (4, 0)), (0, (6, 0))]) (stN := []) (hsC := jpA_1695) (hsD := jpA_1693) (v := (0, 0)) (st2 := [(0, 0)]) (hs2 := jpA_1776) (jA_243_419 (d := 0) (by omega)) (by rfl) (by rfl) (by decide +kernel) (by rfl) (by rfl) (by omega) (by omega) (by omega) (by omega) rfl (by decide +kernel) ?_
  refine jT_xistore (v := (0, 0)) (LN := [(7, (0, 0)), (6, (0, 2)), (5, (0, 0)), (4, (4, 3)), (3, (4, 2)), (2, (4, 1)), (1, (4, 0)), (0, (6, 0))]) (pcN := 1128) jI_379_1126 rfl rfl rfl rfl ?_
  refine jT_xaload_n (v := (4, 1)) (pcN := 1129) jI_379_1128 rfl rfl rfl ?_
  refine jT_fR [1, 15, 16, 17, 18, 19, 20, 21, 22, 23, 24, 25, 26, 27, 28, 29] 57 (y := 186) (pcN := 1132) (dC := 0) (bc1 := 0) (bc2 := 0) (c1 := 0) (c2 := 0) (as := [(4, 1)]) (asC := [(4, 0)]) (LN := [(7, (0, 0)), (6, (0, 2)), (5, (0, 0)), (4, (4, 3)), (3, (4, 2)), (2, (4, 1)), (1, (4, 0)), (0, (6, 0))]) (stN := []) (hsC := jpA_361) (v := (0, 2)) (st2 := [(0, 2)]) (jA_186_101 (d := 0)) (by rfl) (by rfl) (by decide +kernel) (by rfl) (by rfl) (by omega) (by omega) (by omega) (by omega) rfl ?_
  refine jT_xiload (v := (0, 2)) (pcN := 1134) jI_379_1132 rfl rfl rfl ?_
  refine jT_xicT (pcN := 1139) jI_379_1134 rfl (by decide +kernel) rfl ?_
  refine jT_xiload (v := (0, 2)) (pcN := 1141) jI_379_1139 rfl rfl rfl ?_
  refine jT_xifT (pcN := 1163) jI_379_1141 rfl (by decide +kernel) rfl ?_
  refine jT_xgoto (pcN := 3740) jI_379_1163 rfl ?_
  refine jT_xiinc (x := 0) (z := 5) (LN := [(5, (0, 5)), (7, (0, 0)), (6, (0, 2)), (4, (4, 3)), (3, (4, 2)), (2, (4, 1)), (1, (4, 0)), (0, (6, 0))]) (pcN := 3743) jI_379_3740 rfl rfl (by decide) rfl rfl ?_
  refine jT_xgoto (pcN := 28) jI_379_3743 rfl ?_
  refine jT_xiload (v := (0, 5)) (pcN := 30) jI_379_28 rfl rfl rfl ?_
  refine jT_xaload_n (v := (6, 0)) (pcN := 31) jI_379_30 rfl rfl rfl ?_
  refine jT_adv 1 (pcN := 32) (LN := [(5, (0, 5)), (7, (0, 0)), (6, (0, 2)), (4, (4, 3)), (3, (4, 2)), (2, (4, 1)), (1, (4, 0)), (0, (6, 0))]) (stN := [(0, 5), (0, 5)]) (hsN := jpA_1776) (c1 := 0) (s1 := 0) (c2 := 0) (s2 := 0) (by exact rfl) ?_ (by omega) (by omega)
  refine jT_xiconst (k := 5) (pcN := 33) jI_379_32 rfl ?_
  refine jT_xisub (x := 5) (y := 5) (z := 0) (pcN := 34) jI_379_33 rfl (by decide) rfl ?_
  refine jT_xicT (pcN := 3746) jI_379_34 rfl (by decide +kernel) rfl ?_
  refine jT_xiconst (k := 1) (pcN := 3747) jI_379_3746 rfl ?_
  exact jT_ret rfl (by decide) (by show 50 ≤ 57; decide) (by omega) (by omega) ⟨rfl, rfl⟩
def jpA_1777 : List JC := [jzA_265, jzA_266, jgh, jgh, (8, [(4, 30), (4, 31)], []), jgh, jgh, jgh, jgh, jgh, jgh, (101, [], [0, 0, 0, 0, 0, 0]), jgh, jgh, jzA_721, (100, [], jS0), jgh, jgh, jgh, jgh, (130, [], [37, 38, 39, 40, 41, 42]), (101, [], [0, 0, 0, 0, 0, 0]), jgh, jgh, jgh, jgh, jgh, jgh, jgh, jgh, jgh, (101, [], [0, 0, 0, 0, 0, 0]), jzA_324, (117, [], [44, 45, 46, 47]), jgh, jgh, jgh, (100, [], (jenc (jlg 0))), jgh, jgh, jgh, jgh, jgh, (4, [(4, 48), (1, 1)], []), jgh, (7, [(4, 49), (4, (-1)), (4, (-1))], []), jgh, jgh, (101, [], [0, 0, 0, 0, 0, 0]), (114, [], [43])]
def jpA_1778 : List JC := [jzA_265, jzA_266, jgh, jgh, (8, [(4, 30), (4, 31)], []), jgh, jgh, jgh, jgh, jgh, jgh, (101, [], [0, 0, 0, 0, 0, 0]), jgh, jgh, jzA_721, (100, [], jS0), jgh, jgh, jgh, jgh, (130, [], [37, 38, 39, 40, 41, 42]), (101, [], [0, 0, 0, 0, 0, 0]), jgh, jgh, jgh, jgh, jgh, jgh, jgh, jgh, jgh, (101, [], [0, 0, 0, 0, 0, 0]), jzA_324, (117, [], [44, 45, 46, 47]), jgh, jgh, jgh, (100, [], (jenc (jlg 0))), jgh, jgh, jgh, jgh, jgh, (4, [(4, 48), (1, 1)], []), jgh, (7, [(4, 49), (4, (-1)), (4, (-1))], []), jgh, jgh, (101, [], [0, 0, 0, 0, 0, 0]), (114, [], [43]), (101, [], [0, 0, 0, 0, 0, 0]), (4, [(4, 50), (1, 1)], [])]
def jpA_1779 : List JC := [jzA_265, jzA_606, jgh, jgh, (8, [(4, 30), (4, 31)], []), jgh, jgh, jgh, jgh, jgh, jgh, (101, [], [0, 0, 0, 0, 0, 0]), jgh, jgh, jzA_721, (100, [], jS0), jgh, jgh, jgh, jgh, (130, [], [37, 38, 39, 40, 41, 42]), (101, [], [0, 0, 0, 0, 0, 0]), jgh, jgh, jgh, jgh, jgh, jgh, jgh, jgh, jgh, (101, [], [0, 0, 0, 0, 0, 0]), jzA_324, (117, [], [44, 45, 46, 47]), jgh, jgh, jgh, (100, [], (jenc (jlg 0))), jgh, jgh, jgh, jgh, jgh, (4, [(4, 48), (1, 1)], []), jgh, (7, [(4, 49), (4, (-1)), (4, (-1))], []), jgh, jgh, (101, [], [0, 0, 0, 0, 0, 0]), (114, [], [43]), (101, [], [0, 0, 0, 0, 0, 0]), (4, [(4, 50), (1, 1)], []), (101, [], [0, 0, 0, 0, 0, 0]), (101, [], [(-1), 0, 0, 0, 0, 0]), (100, [], (jenc 0)), (100, [], (jenc (-1))), (100, [], (jenc ((-1) * (jlg 0))))]
set_option maxRecDepth 100000 in
theorem jL_10_11 {d : Nat} {x0 x1 x2 x3 x4 : Int} (h_x0 : (-2147483648) ≤ x0 ∧ x0 ≤ 2147483647) (h_x1 : 1 ≤ x1 ∧ x1 ≤ 1) (h_x2 : 0 ≤ x2 ∧ x2 ≤ 7) (h_x3 : 0 ≤ x3 ∧ x3 ≤ 0) (h_x4 : (-2147483648) ≤ x4 ∧ x4 ≤ 2147483647) : jT [x0, x1, x2, x3, x4] (d + 8) 379 50 1063 [(5, (0, 0)), (4, (4, 3)), (3, (4, 2)), (2, (4, 1)), (1, (4, 0)), (0, (6, 0))] [] jpA_1777 8 194 (fun k v hsN => k = 0 ∧ v = (0, 1)) := by
  refine jT_xaload_n (v := (4, 0)) (pcN := 1064) jI_379_1063 rfl rfl rfl ?_
  refine jT_xaload_n (v := (6, 0)) (pcN := 1065) jI_379_1064 rfl rfl rfl ?_
  refine jT_xiload (v := (0, 0)) (pcN := 1067) jI_379_1065 rfl rfl rfl ?_
  refine jT_xiconst (k := 1) (pcN := 1068) jI_379_1067 rfl ?_
  refine jT_xiadd (x := 0) (y := 1) (z := 1) (pcN := 1069) jI_379_1068 rfl (by decide) rfl ?_
  refine jT_adv 1 (pcN := 1070) (LN := [(5, (0, 0)), (4, (4, 3)), (3, (4, 2)), (2, (4, 1)), (1, (4, 0)), (0, (6, 0))]) (stN := [(0, x1), (4, 0)]) (hsN := jpA_1777) (c1 := 0) (s1 := 0) (c2 := 8) (s2 := 194) (by exact rfl) ?_ (by omega) (by omega)
  refine jT_eq (LN := [(5, (0, 0)), (4, (4, 3)), (3, (4, 2)), (2, (4, 1)), (1, (4, 0)), (0, (6, 0))]) (stN := [(0, 1), (4, 0)]) (hsN := [jzA_265, jzA_266, jgh, jgh, (8, [(4, 30), (4, 31)], []), jgh, jgh, jgh, jgh, jgh, jgh, (101, [], [0, 0, 0, 0, 0, 0]), jgh, jgh, jzA_721, (100, [], jS0), jgh, jgh, jgh, jgh, (130, [], [37, 38, 39, 40, 41, 42]), (101, [], [0, 0, 0, 0, 0, 0]), jgh, jgh, jgh, jgh, jgh, jgh, jgh, jgh, jgh, (101, [], [0, 0, 0, 0, 0, 0]), jzA_324, (117, [], [44, 45, 46, 47]), jgh, jgh, jgh, (100, [], (jenc (jlg 0))), jgh, jgh, jgh, jgh, jgh, (4, [(4, 48), (1, 1)], []), jgh, (7, [(4, 49), (4, (-1)), (4, (-1))], []), jgh, jgh, (101, [], [0, 0, 0, 0, 0, 0]), (114, [], [43])]) (rfl) (by simp only [List.cons.injEq, Prod.mk.injEq, and_true, true_and] <;> ((try unfold jw); (try unfold jwl); omega)) (rfl) ?_
  refine jT_xaload_n (v := (6, 0)) (pcN := 1071) jI_379_1070 rfl rfl rfl ?_
  refine jT_xiload (v := (0, 0)) (pcN := 1073) jI_379_1071 rfl rfl rfl ?_
  refine jT_xiconst (k := 2) (pcN := 1074) jI_379_1073 rfl ?_
  refine jT_xiadd (x := 0) (y := 2) (z := 2) (pcN := 1075) jI_379_1074 rfl (by decide) rfl ?_
  refine jT_adv 1 (pcN := 1076) (LN := [(5, (0, 0)), (4, (4, 3)), (3, (4, 2)), (2, (4, 1)), (1, (4, 0)), (0, (6, 0))]) (stN := [(0, x2), (0, 1), (4, 0)]) (hsN := jpA_1777) (c1 := 0) (s1 := 0) (c2 := 8) (s2 := 194) (by exact rfl) ?_ (by omega) (by omega)
  refine jT_xaload_n (v := (6, 0)) (pcN := 1077) jI_379_1076 rfl rfl rfl ?_
  refine jT_xiload (v := (0, 0)) (pcN := 1079) jI_379_1077 rfl rfl rfl ?_
  refine jT_xiconst (k := 3) (pcN := 1080) jI_379_1079 rfl ?_
  refine jT_xiadd (x := 0) (y := 3) (z := 3) (pcN := 1081) jI_379_1080 rfl (by decide) rfl ?_
  refine jT_adv 1 (pcN := 1082) (LN := [(5, (0, 0)), (4, (4, 3)), (3, (4, 2)), (2, (4, 1)), (1, (4, 0)), (0, (6, 0))]) (stN := [(0, x3), (0, x2), (0, 1), (4, 0)]) (hsN := jpA_1777) (c1 := 0) (s1 := 0) (c2 := 8) (s2 := 194) (by exact rfl) ?_ (by omega) (by omega)
  refine jT_eq (LN := [(5, (0, 0)), (4, (4, 3)), (3, (4, 2)), (2, (4, 1)), (1, (4, 0)), (0, (6, 0))]) (stN := [(0, 0), (0, x2), (0, 1), (4, 0)]) (hsN := [jzA_265, jzA_266, jgh, jgh, (8, [(4, 30), (4, 31)], []), jgh, jgh, jgh, jgh, jgh, jgh, (101, [], [0, 0, 0, 0, 0, 0]), jgh, jgh, jzA_721, (100, [], jS0), jgh, jgh, jgh, jgh, (130, [], [37, 38, 39, 40, 41, 42]), (101, [], [0, 0, 0, 0, 0, 0]), jgh, jgh, jgh, jgh, jgh, jgh, jgh, jgh, jgh, (101, [], [0, 0, 0, 0, 0, 0]), jzA_324, (117, [], [44, 45, 46, 47]), jgh, jgh, jgh, (100, [], (jenc (jlg 0))), jgh, jgh, jgh, jgh, jgh, (4, [(4, 48), (1, 1)], []), jgh, (7, [(4, 49), (4, (-1)), (4, (-1))], []), jgh, jgh, (101, [], [0, 0, 0, 0, 0, 0]), (114, [], [43])]) (rfl) (by simp only [List.cons.injEq, Prod.mk.injEq, and_true, true_and] <;> ((try unfold jw); (try unfold jwl); omega)) (rfl) ?_
  refine jT_xifT (pcN := 1089) jI_379_1082 rfl (by decide +kernel) rfl ?_
  refine jT_xiconst (k := 0) (pcN := 1090) jI_379_1089 rfl ?_
  refine jT_xaload_n (v := (4, 2)) (pcN := 1091) jI_379_1090 rfl rfl rfl ?_
  refine jT_fA [0, 2, 4, 5, 6, 7, 8, 9, 10, 11, 12, 13, 14, 30, 31, 32, 33, 34, 35, 36, 43, 44, 45, 46, 47, 48, 49] 50 (y := 336) (pcN := 1094) (dC := 6) (bc1 := 3) (bc2 := 14) (c1 := 5) (c2 := 180) (as := [(4, 0), (0, 1), (0, x2), (0, 0), (4, 2)]) (asC := [(4, 0), (0, 1), (0, x2), (0, 0), (4, 1)]) (LN := [(5, (0, 0)), (4, (4, 3)), (3, (4, 2)), (2, (4, 1)), (1, (4, 0)), (0, (6, 0))]) (stN := []) (hsC := jpA_1699) (ex := [(101, [], [0, 0, 0, 0, 0, 0]), (4, [(4, 27), (1, 1)], [])]) (v := (0, 2)) (st2 := [(0, 2)]) (hs2 := jpA_1778) (jA_336_421 (d := 0) (by omega)) (by rfl) (by rfl) (by decide +kernel) (by rfl) (by rfl) (by omega) (by omega) (by omega) (by omega) rfl (by decide +kernel) ?_
  refine jT_xistore (v := (0, 2)) (LN := [(6, (0, 2)), (5, (0, 0)), (4, (4, 3)), (3, (4, 2)), (2, (4, 1)), (1, (4, 0)), (0, (6, 0))]) (pcN := 1096) jI_379_1094 rfl rfl rfl rfl ?_
  refine jT_xaload_n (v := (4, 1)) (pcN := 1097) jI_379_1096 rfl rfl rfl ?_
  refine jT_xaload_n (v := (6, 0)) (pcN := 1098) jI_379_1097 rfl rfl rfl ?_
  refine jT_xiload (v := (0, 0)) (pcN := 1100) jI_379_1098 rfl rfl rfl ?_
  refine jT_xiconst (k := 1) (pcN := 1101) jI_379_1100 rfl ?_
  refine jT_xiadd (x := 0) (y := 1) (z := 1) (pcN := 1102) jI_379_1101 rfl (by decide) rfl ?_
  refine jT_adv 1 (pcN := 1103) (LN := [(6, (0, 2)), (5, (0, 0)), (4, (4, 3)), (3, (4, 2)), (2, (4, 1)), (1, (4, 0)), (0, (6, 0))]) (stN := [(0, x1), (4, 1)]) (hsN := jpA_1778) (c1 := 0) (s1 := 0) (c2 := 5) (s2 := 180) (by exact rfl) ?_ (by omega) (by omega)
  refine jT_eq (LN := [(6, (0, 2)), (5, (0, 0)), (4, (4, 3)), (3, (4, 2)), (2, (4, 1)), (1, (4, 0)), (0, (6, 0))]) (stN := [(0, 1), (4, 1)]) (hsN := [jzA_265, jzA_266, jgh, jgh, (8, [(4, 30), (4, 31)], []), jgh, jgh, jgh, jgh, jgh, jgh, (101, [], [0, 0, 0, 0, 0, 0]), jgh, jgh, jzA_721, (100, [], jS0), jgh, jgh, jgh, jgh, (130, [], [37, 38, 39, 40, 41, 42]), (101, [], [0, 0, 0, 0, 0, 0]), jgh, jgh, jgh, jgh, jgh, jgh, jgh, jgh, jgh, (101, [], [0, 0, 0, 0, 0, 0]), jzA_324, (117, [], [44, 45, 46, 47]), jgh, jgh, jgh, (100, [], (jenc (jlg 0))), jgh, jgh, jgh, jgh, jgh, (4, [(4, 48), (1, 1)], []), jgh, (7, [(4, 49), (4, (-1)), (4, (-1))], []), jgh, jgh, (101, [], [0, 0, 0, 0, 0, 0]), (114, [], [43]), (101, [], [0, 0, 0, 0, 0, 0]), (4, [(4, 50), (1, 1)], [])]) (rfl) (by simp only [List.cons.injEq, Prod.mk.injEq, and_true, true_and] <;> ((try unfold jw); (try unfold jwl); omega)) (rfl) ?_
  refine jT_xaload_n (v := (6, 0)) (pcN := 1104) jI_379_1103 rfl rfl rfl ?_
  refine jT_xiload (v := (0, 0)) (pcN := 1106) jI_379_1104 rfl rfl rfl ?_
  refine jT_xiconst (k := 2) (pcN := 1107) jI_379_1106 rfl ?_
  refine jT_xiadd (x := 0) (y := 2) (z := 2) (pcN := 1108) jI_379_1107 rfl (by decide) rfl ?_
  refine jT_adv 1 (pcN := 1109) (LN := [(6, (0, 2)), (5, (0, 0)), (4, (4, 3)), (3, (4, 2)), (2, (4, 1)), (1, (4, 0)), (0, (6, 0))]) (stN := [(0, x2), (0, 1), (4, 1)]) (hsN := jpA_1778) (c1 := 0) (s1 := 0) (c2 := 5) (s2 := 180) (by exact rfl) ?_ (by omega) (by omega)
  refine jT_xaload_n (v := (6, 0)) (pcN := 1110) jI_379_1109 rfl rfl rfl ?_
  refine jT_xiload (v := (0, 0)) (pcN := 1112) jI_379_1110 rfl rfl rfl ?_
  refine jT_xiconst (k := 3) (pcN := 1113) jI_379_1112 rfl ?_
  refine jT_xiadd (x := 0) (y := 3) (z := 3) (pcN := 1114) jI_379_1113 rfl (by decide) rfl ?_
  refine jT_adv 1 (pcN := 1115) (LN := [(6, (0, 2)), (5, (0, 0)), (4, (4, 3)), (3, (4, 2)), (2, (4, 1)), (1, (4, 0)), (0, (6, 0))]) (stN := [(0, x3), (0, x2), (0, 1), (4, 1)]) (hsN := jpA_1778) (c1 := 0) (s1 := 0) (c2 := 5) (s2 := 180) (by exact rfl) ?_ (by omega) (by omega)
  refine jT_eq (LN := [(6, (0, 2)), (5, (0, 0)), (4, (4, 3)), (3, (4, 2)), (2, (4, 1)), (1, (4, 0)), (0, (6, 0))]) (stN := [(0, 0), (0, x2), (0, 1), (4, 1)]) (hsN := [jzA_265, jzA_266, jgh, jgh, (8, [(4, 30), (4, 31)], []), jgh, jgh, jgh, jgh, jgh, jgh, (101, [], [0, 0, 0, 0, 0, 0]), jgh, jgh, jzA_721, (100, [], jS0), jgh, jgh, jgh, jgh, (130, [], [37, 38, 39, 40, 41, 42]), (101, [], [0, 0, 0, 0, 0, 0]), jgh, jgh, jgh, jgh, jgh, jgh, jgh, jgh, jgh, (101, [], [0, 0, 0, 0, 0, 0]), jzA_324, (117, [], [44, 45, 46, 47]), jgh, jgh, jgh, (100, [], (jenc (jlg 0))), jgh, jgh, jgh, jgh, jgh, (4, [(4, 48), (1, 1)], []), jgh, (7, [(4, 49), (4, (-1)), (4, (-1))], []), jgh, jgh, (101, [], [0, 0, 0, 0, 0, 0]), (114, [], [43]), (101, [], [0, 0, 0, 0, 0, 0]), (4, [(4, 50), (1, 1)], [])]) (rfl) (by simp only [List.cons.injEq, Prod.mk.injEq, and_true, true_and] <;> ((try unfold jw); (try unfold jwl); omega)) (rfl) ?_
  refine jT_xifT (pcN := 1122) jI_379_1115 rfl (by decide +kernel) rfl ?_
  refine jT_xiconst (k := 0) (pcN := 1123) jI_379_1122 rfl ?_
  refine jT_fB [1, 15, 16, 17, 18, 19, 20, 21, 22, 23, 24, 25, 26, 27, 28, 29, 37, 38, 39, 40, 41, 42] 52 (y := 243) (pcN := 1126) (dC := 7) (bc1 := 5) (bc2 := 180) (c1 := 0) (c2 := 0) (as := [(4, 1), (0, 1), (0, x2), (0, 0)]) (asC := [(4, 0), (0, 1), (0, x2), (0, 0)]) (LN := [(6, (0, 2)), (5, (0, 0)), (4, (4, 3)), (3, (4, 2)), (2, (4, 1)), (1, (4, 0)), (0, (6, 0))]) (stN := []) (hsC := jpA_1695) (hsD := jpA_1693) (v := (0, 0)) (st2 := [(0, 0)]) (hs2 := jpA_1779) (jA_243_422 (d := 0) (by omega)) (by rfl) (by rfl) (by decide +kernel) (by rfl) (by rfl) (by omega) (by omega) (by omega) (by omega) rfl (by decide +kernel) ?_
  refine jT_xistore (v := (0, 0)) (LN := [(7, (0, 0)), (6, (0, 2)), (5, (0, 0)), (4, (4, 3)), (3, (4, 2)), (2, (4, 1)), (1, (4, 0)), (0, (6, 0))]) (pcN := 1128) jI_379_1126 rfl rfl rfl rfl ?_
  refine jT_xaload_n (v := (4, 1)) (pcN := 1129) jI_379_1128 rfl rfl rfl ?_
  refine jT_fR [1, 15, 16, 17, 18, 19, 20, 21, 22, 23, 24, 25, 26, 27, 28, 29] 57 (y := 186) (pcN := 1132) (dC := 0) (bc1 := 0) (bc2 := 0) (c1 := 0) (c2 := 0) (as := [(4, 1)]) (asC := [(4, 0)]) (LN := [(7, (0, 0)), (6, (0, 2)), (5, (0, 0)), (4, (4, 3)), (3, (4, 2)), (2, (4, 1)), (1, (4, 0)), (0, (6, 0))]) (stN := []) (hsC := jpA_361) (v := (0, 2)) (st2 := [(0, 2)]) (jA_186_101 (d := 0)) (by rfl) (by rfl) (by decide +kernel) (by rfl) (by rfl) (by omega) (by omega) (by omega) (by omega) rfl ?_
  refine jT_xiload (v := (0, 2)) (pcN := 1134) jI_379_1132 rfl rfl rfl ?_
  refine jT_xicT (pcN := 1139) jI_379_1134 rfl (by decide +kernel) rfl ?_
  refine jT_xiload (v := (0, 2)) (pcN := 1141) jI_379_1139 rfl rfl rfl ?_
  refine jT_xifT (pcN := 1163) jI_379_1141 rfl (by decide +kernel) rfl ?_
  refine jT_xgoto (pcN := 3740) jI_379_1163 rfl ?_
  refine jT_xiinc (x := 0) (z := 5) (LN := [(5, (0, 5)), (7, (0, 0)), (6, (0, 2)), (4, (4, 3)), (3, (4, 2)), (2, (4, 1)), (1, (4, 0)), (0, (6, 0))]) (pcN := 3743) jI_379_3740 rfl rfl (by decide) rfl rfl ?_
  refine jT_xgoto (pcN := 28) jI_379_3743 rfl ?_
  refine jT_xiload (v := (0, 5)) (pcN := 30) jI_379_28 rfl rfl rfl ?_
  refine jT_xaload_n (v := (6, 0)) (pcN := 31) jI_379_30 rfl rfl rfl ?_
  refine jT_adv 1 (pcN := 32) (LN := [(5, (0, 5)), (7, (0, 0)), (6, (0, 2)), (4, (4, 3)), (3, (4, 2)), (2, (4, 1)), (1, (4, 0)), (0, (6, 0))]) (stN := [(0, 5), (0, 5)]) (hsN := jpA_1779) (c1 := 0) (s1 := 0) (c2 := 0) (s2 := 0) (by exact rfl) ?_ (by omega) (by omega)
  refine jT_xiconst (k := 5) (pcN := 33) jI_379_32 rfl ?_
  refine jT_xisub (x := 5) (y := 5) (z := 0) (pcN := 34) jI_379_33 rfl (by decide) rfl ?_
  refine jT_xicT (pcN := 3746) jI_379_34 rfl (by decide +kernel) rfl ?_
  refine jT_xiconst (k := 1) (pcN := 3747) jI_379_3746 rfl ?_
  exact jT_ret rfl (by decide) (by show 50 ≤ 57; decide) (by omega) (by omega) ⟨rfl, rfl⟩
def jpA_1780 : List JC := [jzA_265, jzA_266, jgh, jgh, (8, [(4, 30), (4, 31)], []), jgh, jgh, jgh, jgh, jgh, jgh, (101, [], [0, 0, 0, 0, 0, 0]), jgh, jgh, jzA_721, (100, [], jS0), jgh, jgh, jgh, jgh, (130, [], [37, 38, 39, 40, 41, 42]), (101, [], [0, 0, 0, 0, 0, 0]), jgh, jgh, jgh, jgh, jgh, jgh, jgh, jgh, jgh, (101, [], [0, 0, 0, 0, 0, 0]), jzA_324, (117, [], [44, 45, 46, 47]), jgh, jgh, jgh, (100, [], (jenc (jlg 0))), jgh, jgh, jgh, jgh, jgh, (4, [(4, 48), (1, 1)], []), jgh, jgh, (7, [(4, 49), (4, (-1)), (4, (-1))], []), jgh, (101, [], [0, 0, 0, 0, 0, 0]), (114, [], [43])]
def jpA_1781 : List JC := [jzA_265, jzA_266, jgh, jgh, (8, [(4, 30), (4, 31)], []), jgh, jgh, jgh, jgh, jgh, jgh, (101, [], [0, 0, 0, 0, 0, 0]), jgh, jgh, jzA_721, (100, [], jS0), jgh, jgh, jgh, jgh, (130, [], [37, 38, 39, 40, 41, 42]), (101, [], [0, 0, 0, 0, 0, 0]), jgh, jgh, jgh, jgh, jgh, jgh, jgh, jgh, jgh, (101, [], [0, 0, 0, 0, 0, 0]), jzA_324, (117, [], [44, 45, 46, 47]), jgh, jgh, jgh, (100, [], (jenc (jlg 0))), jgh, jgh, jgh, jgh, jgh, (4, [(4, 48), (1, 1)], []), jgh, jgh, (7, [(4, 49), (4, (-1)), (4, (-1))], []), jgh, (101, [], [0, 0, 0, 0, 0, 0]), (114, [], [43]), (101, [], [0, 0, 0, 0, 0, 0]), (4, [(4, 50), (1, 1)], [])]
def jpA_1782 : List JC := [jzA_265, jzA_606, jgh, jgh, (8, [(4, 30), (4, 31)], []), jgh, jgh, jgh, jgh, jgh, jgh, (101, [], [0, 0, 0, 0, 0, 0]), jgh, jgh, jzA_721, (100, [], jS0), jgh, jgh, jgh, jgh, (130, [], [37, 38, 39, 40, 41, 42]), (101, [], [0, 0, 0, 0, 0, 0]), jgh, jgh, jgh, jgh, jgh, jgh, jgh, jgh, jgh, (101, [], [0, 0, 0, 0, 0, 0]), jzA_324, (117, [], [44, 45, 46, 47]), jgh, jgh, jgh, (100, [], (jenc (jlg 0))), jgh, jgh, jgh, jgh, jgh, (4, [(4, 48), (1, 1)], []), jgh, jgh, (7, [(4, 49), (4, (-1)), (4, (-1))], []), jgh, (101, [], [0, 0, 0, 0, 0, 0]), (114, [], [43]), (101, [], [0, 0, 0, 0, 0, 0]), (4, [(4, 50), (1, 1)], []), (101, [], [0, 0, 0, 0, 0, 0]), (101, [], [(-1), 0, 0, 0, 0, 0]), (100, [], (jenc 0)), (100, [], (jenc (-1))), (100, [], (jenc ((-1) * (jlg 0))))]
set_option maxRecDepth 100000 in
theorem jL_10_12 {d : Nat} {x0 x1 x2 x3 x4 : Int} (h_x0 : (-2147483648) ≤ x0 ∧ x0 ≤ 2147483647) (h_x1 : 2 ≤ x1 ∧ x1 ≤ 2) (h_x2 : 0 ≤ x2 ∧ x2 ≤ 7) (h_x3 : 0 ≤ x3 ∧ x3 ≤ 0) (h_x4 : (-2147483648) ≤ x4 ∧ x4 ≤ 2147483647) : jT [x0, x1, x2, x3, x4] (d + 8) 379 50 1063 [(5, (0, 0)), (4, (4, 3)), (3, (4, 2)), (2, (4, 1)), (1, (4, 0)), (0, (6, 0))] [] jpA_1780 8 194 (fun k v hsN => k = 0 ∧ v = (0, 1)) := by
  refine jT_xaload_n (v := (4, 0)) (pcN := 1064) jI_379_1063 rfl rfl rfl ?_
  refine jT_xaload_n (v := (6, 0)) (pcN := 1065) jI_379_1064 rfl rfl rfl ?_
  refine jT_xiload (v := (0, 0)) (pcN := 1067) jI_379_1065 rfl rfl rfl ?_
  refine jT_xiconst (k := 1) (pcN := 1068) jI_379_1067 rfl ?_
  refine jT_xiadd (x := 0) (y := 1) (z := 1) (pcN := 1069) jI_379_1068 rfl (by decide) rfl ?_
  refine jT_adv 1 (pcN := 1070) (LN := [(5, (0, 0)), (4, (4, 3)), (3, (4, 2)), (2, (4, 1)), (1, (4, 0)), (0, (6, 0))]) (stN := [(0, x1), (4, 0)]) (hsN := jpA_1780) (c1 := 0) (s1 := 0) (c2 := 8) (s2 := 194) (by exact rfl) ?_ (by omega) (by omega)
  refine jT_eq (LN := [(5, (0, 0)), (4, (4, 3)), (3, (4, 2)), (2, (4, 1)), (1, (4, 0)), (0, (6, 0))]) (stN := [(0, 2), (4, 0)]) (hsN := [jzA_265, jzA_266, jgh, jgh, (8, [(4, 30), (4, 31)], []), jgh, jgh, jgh, jgh, jgh, jgh, (101, [], [0, 0, 0, 0, 0, 0]), jgh, jgh, jzA_721, (100, [], jS0), jgh, jgh, jgh, jgh, (130, [], [37, 38, 39, 40, 41, 42]), (101, [], [0, 0, 0, 0, 0, 0]), jgh, jgh, jgh, jgh, jgh, jgh, jgh, jgh, jgh, (101, [], [0, 0, 0, 0, 0, 0]), jzA_324, (117, [], [44, 45, 46, 47]), jgh, jgh, jgh, (100, [], (jenc (jlg 0))), jgh, jgh, jgh, jgh, jgh, (4, [(4, 48), (1, 1)], []), jgh, jgh, (7, [(4, 49), (4, (-1)), (4, (-1))], []), jgh, (101, [], [0, 0, 0, 0, 0, 0]), (114, [], [43])]) (rfl) (by simp only [List.cons.injEq, Prod.mk.injEq, and_true, true_and] <;> ((try unfold jw); (try unfold jwl); omega)) (rfl) ?_
  refine jT_xaload_n (v := (6, 0)) (pcN := 1071) jI_379_1070 rfl rfl rfl ?_
  refine jT_xiload (v := (0, 0)) (pcN := 1073) jI_379_1071 rfl rfl rfl ?_
  refine jT_xiconst (k := 2) (pcN := 1074) jI_379_1073 rfl ?_
  refine jT_xiadd (x := 0) (y := 2) (z := 2) (pcN := 1075) jI_379_1074 rfl (by decide) rfl ?_
  refine jT_adv 1 (pcN := 1076) (LN := [(5, (0, 0)), (4, (4, 3)), (3, (4, 2)), (2, (4, 1)), (1, (4, 0)), (0, (6, 0))]) (stN := [(0, x2), (0, 2), (4, 0)]) (hsN := jpA_1780) (c1 := 0) (s1 := 0) (c2 := 8) (s2 := 194) (by exact rfl) ?_ (by omega) (by omega)
  refine jT_xaload_n (v := (6, 0)) (pcN := 1077) jI_379_1076 rfl rfl rfl ?_
  refine jT_xiload (v := (0, 0)) (pcN := 1079) jI_379_1077 rfl rfl rfl ?_
  refine jT_xiconst (k := 3) (pcN := 1080) jI_379_1079 rfl ?_
  refine jT_xiadd (x := 0) (y := 3) (z := 3) (pcN := 1081) jI_379_1080 rfl (by decide) rfl ?_
  refine jT_adv 1 (pcN := 1082) (LN := [(5, (0, 0)), (4, (4, 3)), (3, (4, 2)), (2, (4, 1)), (1, (4, 0)), (0, (6, 0))]) (stN := [(0, x3), (0, x2), (0, 2), (4, 0)]) (hsN := jpA_1780) (c1 := 0) (s1 := 0) (c2 := 8) (s2 := 194) (by exact rfl) ?_ (by omega) (by omega)
  refine jT_eq (LN := [(5, (0, 0)), (4, (4, 3)), (3, (4, 2)), (2, (4, 1)), (1, (4, 0)), (0, (6, 0))]) (stN := [(0, 0), (0, x2), (0, 2), (4, 0)]) (hsN := [jzA_265, jzA_266, jgh, jgh, (8, [(4, 30), (4, 31)], []), jgh, jgh, jgh, jgh, jgh, jgh, (101, [], [0, 0, 0, 0, 0, 0]), jgh, jgh, jzA_721, (100, [], jS0), jgh, jgh, jgh, jgh, (130, [], [37, 38, 39, 40, 41, 42]), (101, [], [0, 0, 0, 0, 0, 0]), jgh, jgh, jgh, jgh, jgh, jgh, jgh, jgh, jgh, (101, [], [0, 0, 0, 0, 0, 0]), jzA_324, (117, [], [44, 45, 46, 47]), jgh, jgh, jgh, (100, [], (jenc (jlg 0))), jgh, jgh, jgh, jgh, jgh, (4, [(4, 48), (1, 1)], []), jgh, jgh, (7, [(4, 49), (4, (-1)), (4, (-1))], []), jgh, (101, [], [0, 0, 0, 0, 0, 0]), (114, [], [43])]) (rfl) (by simp only [List.cons.injEq, Prod.mk.injEq, and_true, true_and] <;> ((try unfold jw); (try unfold jwl); omega)) (rfl) ?_
  refine jT_xifT (pcN := 1089) jI_379_1082 rfl (by decide +kernel) rfl ?_
  refine jT_xiconst (k := 0) (pcN := 1090) jI_379_1089 rfl ?_
  refine jT_xaload_n (v := (4, 2)) (pcN := 1091) jI_379_1090 rfl rfl rfl ?_
  refine jT_fA [0, 2, 4, 5, 6, 7, 8, 9, 10, 11, 12, 13, 14, 30, 31, 32, 33, 34, 35, 36, 43, 44, 45, 46, 47, 48, 49] 50 (y := 336) (pcN := 1094) (dC := 6) (bc1 := 3) (bc2 := 14) (c1 := 5) (c2 := 180) (as := [(4, 0), (0, 2), (0, x2), (0, 0), (4, 2)]) (asC := [(4, 0), (0, 2), (0, x2), (0, 0), (4, 1)]) (LN := [(5, (0, 0)), (4, (4, 3)), (3, (4, 2)), (2, (4, 1)), (1, (4, 0)), (0, (6, 0))]) (stN := []) (hsC := jpA_1703) (ex := [(101, [], [0, 0, 0, 0, 0, 0]), (4, [(4, 27), (1, 1)], [])]) (v := (0, 2)) (st2 := [(0, 2)]) (hs2 := jpA_1781) (jA_336_424 (d := 0) (by omega)) (by rfl) (by rfl) (by decide +kernel) (by rfl) (by rfl) (by omega) (by omega) (by omega) (by omega) rfl (by decide +kernel) ?_
  refine jT_xistore (v := (0, 2)) (LN := [(6, (0, 2)), (5, (0, 0)), (4, (4, 3)), (3, (4, 2)), (2, (4, 1)), (1, (4, 0)), (0, (6, 0))]) (pcN := 1096) jI_379_1094 rfl rfl rfl rfl ?_
  refine jT_xaload_n (v := (4, 1)) (pcN := 1097) jI_379_1096 rfl rfl rfl ?_
  refine jT_xaload_n (v := (6, 0)) (pcN := 1098) jI_379_1097 rfl rfl rfl ?_
  refine jT_xiload (v := (0, 0)) (pcN := 1100) jI_379_1098 rfl rfl rfl ?_
  refine jT_xiconst (k := 1) (pcN := 1101) jI_379_1100 rfl ?_
  refine jT_xiadd (x := 0) (y := 1) (z := 1) (pcN := 1102) jI_379_1101 rfl (by decide) rfl ?_
  refine jT_adv 1 (pcN := 1103) (LN := [(6, (0, 2)), (5, (0, 0)), (4, (4, 3)), (3, (4, 2)), (2, (4, 1)), (1, (4, 0)), (0, (6, 0))]) (stN := [(0, x1), (4, 1)]) (hsN := jpA_1781) (c1 := 0) (s1 := 0) (c2 := 5) (s2 := 180) (by exact rfl) ?_ (by omega) (by omega)
  refine jT_eq (LN := [(6, (0, 2)), (5, (0, 0)), (4, (4, 3)), (3, (4, 2)), (2, (4, 1)), (1, (4, 0)), (0, (6, 0))]) (stN := [(0, 2), (4, 1)]) (hsN := [jzA_265, jzA_266, jgh, jgh, (8, [(4, 30), (4, 31)], []), jgh, jgh, jgh, jgh, jgh, jgh, (101, [], [0, 0, 0, 0, 0, 0]), jgh, jgh, jzA_721, (100, [], jS0), jgh, jgh, jgh, jgh, (130, [], [37, 38, 39, 40, 41, 42]), (101, [], [0, 0, 0, 0, 0, 0]), jgh, jgh, jgh, jgh, jgh, jgh, jgh, jgh, jgh, (101, [], [0, 0, 0, 0, 0, 0]), jzA_324, (117, [], [44, 45, 46, 47]), jgh, jgh, jgh, (100, [], (jenc (jlg 0))), jgh, jgh, jgh, jgh, jgh, (4, [(4, 48), (1, 1)], []), jgh, jgh, (7, [(4, 49), (4, (-1)), (4, (-1))], []), jgh, (101, [], [0, 0, 0, 0, 0, 0]), (114, [], [43]), (101, [], [0, 0, 0, 0, 0, 0]), (4, [(4, 50), (1, 1)], [])]) (rfl) (by simp only [List.cons.injEq, Prod.mk.injEq, and_true, true_and] <;> ((try unfold jw); (try unfold jwl); omega)) (rfl) ?_
  refine jT_xaload_n (v := (6, 0)) (pcN := 1104) jI_379_1103 rfl rfl rfl ?_
  refine jT_xiload (v := (0, 0)) (pcN := 1106) jI_379_1104 rfl rfl rfl ?_
  refine jT_xiconst (k := 2) (pcN := 1107) jI_379_1106 rfl ?_
  refine jT_xiadd (x := 0) (y := 2) (z := 2) (pcN := 1108) jI_379_1107 rfl (by decide) rfl ?_
  refine jT_adv 1 (pcN := 1109) (LN := [(6, (0, 2)), (5, (0, 0)), (4, (4, 3)), (3, (4, 2)), (2, (4, 1)), (1, (4, 0)), (0, (6, 0))]) (stN := [(0, x2), (0, 2), (4, 1)]) (hsN := jpA_1781) (c1 := 0) (s1 := 0) (c2 := 5) (s2 := 180) (by exact rfl) ?_ (by omega) (by omega)
  refine jT_xaload_n (v := (6, 0)) (pcN := 1110) jI_379_1109 rfl rfl rfl ?_
  refine jT_xiload (v := (0, 0)) (pcN := 1112) jI_379_1110 rfl rfl rfl ?_
  refine jT_xiconst (k := 3) (pcN := 1113) jI_379_1112 rfl ?_
  refine jT_xiadd (x := 0) (y := 3) (z := 3) (pcN := 1114) jI_379_1113 rfl (by decide) rfl ?_
  refine jT_adv 1 (pcN := 1115) (LN := [(6, (0, 2)), (5, (0, 0)), (4, (4, 3)), (3, (4, 2)), (2, (4, 1)), (1, (4, 0)), (0, (6, 0))]) (stN := [(0, x3), (0, x2), (0, 2), (4, 1)]) (hsN := jpA_1781) (c1 := 0) (s1 := 0) (c2 := 5) (s2 := 180) (by exact rfl) ?_ (by omega) (by omega)
  refine jT_eq (LN := [(6, (0, 2)), (5, (0, 0)), (4, (4, 3)), (3, (4, 2)), (2, (4, 1)), (1, (4, 0)), (0, (6, 0))]) (stN := [(0, 0), (0, x2), (0, 2), (4, 1)]) (hsN := [jzA_265, jzA_266, jgh, jgh, (8, [(4, 30), (4, 31)], []), jgh, jgh, jgh, jgh, jgh, jgh, (101, [], [0, 0, 0, 0, 0, 0]), jgh, jgh, jzA_721, (100, [], jS0), jgh, jgh, jgh, jgh, (130, [], [37, 38, 39, 40, 41, 42]), (101, [], [0, 0, 0, 0, 0, 0]), jgh, jgh, jgh, jgh, jgh, jgh, jgh, jgh, jgh, (101, [], [0, 0, 0, 0, 0, 0]), jzA_324, (117, [], [44, 45, 46, 47]), jgh, jgh, jgh, (100, [], (jenc (jlg 0))), jgh, jgh, jgh, jgh, jgh, (4, [(4, 48), (1, 1)], []), jgh, jgh, (7, [(4, 49), (4, (-1)), (4, (-1))], []), jgh, (101, [], [0, 0, 0, 0, 0, 0]), (114, [], [43]), (101, [], [0, 0, 0, 0, 0, 0]), (4, [(4, 50), (1, 1)], [])]) (rfl) (by simp only [List.cons.injEq, Prod.mk.injEq, and_true, true_and] <;> ((try unfold jw); (try unfold jwl); omega)) (rfl) ?_
  refine jT_xifT (pcN := 1122) jI_379_1115 rfl (by decide +kernel) rfl ?_
  refine jT_xiconst (k := 0) (pcN := 1123) jI_379_1122 rfl ?_
  refine jT_fB [1, 15, 16, 17, 18, 19, 20, 21, 22, 23, 24, 25, 26, 27, 28, 29, 37, 38, 39, 40, 41, 42] 52 (y := 243) (pcN := 1126) (dC := 7) (bc1 := 5) (bc2 := 180) (c1 := 0) (c2 := 0) (as := [(4, 1), (0, 2), (0, x2), (0, 0)]) (asC := [(4, 0), (0, 2), (0, x2), (0, 0)]) (LN := [(6, (0, 2)), (5, (0, 0)), (4, (4, 3)), (3, (4, 2)), (2, (4, 1)), (1, (4, 0)), (0, (6, 0))]) (stN := []) (hsC := jpA_1695) (hsD := jpA_1693) (v := (0, 0)) (st2 := [(0, 0)]) (hs2 := jpA_1782) (jA_243_425 (d := 0) (by omega)) (by rfl) (by rfl) (by decide +kernel) (by rfl) (by rfl) (by omega) (by omega) (by omega) (by omega) rfl (by decide +kernel) ?_
  refine jT_xistore (v := (0, 0)) (LN := [(7, (0, 0)), (6, (0, 2)), (5, (0, 0)), (4, (4, 3)), (3, (4, 2)), (2, (4, 1)), (1, (4, 0)), (0, (6, 0))]) (pcN := 1128) jI_379_1126 rfl rfl rfl rfl ?_
  refine jT_xaload_n (v := (4, 1)) (pcN := 1129) jI_379_1128 rfl rfl rfl ?_
  refine jT_fR [1, 15, 16, 17, 18, 19, 20, 21, 22, 23, 24, 25, 26, 27, 28, 29] 57 (y := 186) (pcN := 1132) (dC := 0) (bc1 := 0) (bc2 := 0) (c1 := 0) (c2 := 0) (as := [(4, 1)]) (asC := [(4, 0)]) (LN := [(7, (0, 0)), (6, (0, 2)), (5, (0, 0)), (4, (4, 3)), (3, (4, 2)), (2, (4, 1)), (1, (4, 0)), (0, (6, 0))]) (stN := []) (hsC := jpA_361) (v := (0, 2)) (st2 := [(0, 2)]) (jA_186_101 (d := 0)) (by rfl) (by rfl) (by decide +kernel) (by rfl) (by rfl) (by omega) (by omega) (by omega) (by omega) rfl ?_
  refine jT_xiload (v := (0, 2)) (pcN := 1134) jI_379_1132 rfl rfl rfl ?_
  refine jT_xicT (pcN := 1139) jI_379_1134 rfl (by decide +kernel) rfl ?_
  refine jT_xiload (v := (0, 2)) (pcN := 1141) jI_379_1139 rfl rfl rfl ?_
  refine jT_xifT (pcN := 1163) jI_379_1141 rfl (by decide +kernel) rfl ?_
  refine jT_xgoto (pcN := 3740) jI_379_1163 rfl ?_
  refine jT_xiinc (x := 0) (z := 5) (LN := [(5, (0, 5)), (7, (0, 0)), (6, (0, 2)), (4, (4, 3)), (3, (4, 2)), (2, (4, 1)), (1, (4, 0)), (0, (6, 0))]) (pcN := 3743) jI_379_3740 rfl rfl (by decide) rfl rfl ?_
  refine jT_xgoto (pcN := 28) jI_379_3743 rfl ?_
  refine jT_xiload (v := (0, 5)) (pcN := 30) jI_379_28 rfl rfl rfl ?_
  refine jT_xaload_n (v := (6, 0)) (pcN := 31) jI_379_30 rfl rfl rfl ?_
  refine jT_adv 1 (pcN := 32) (LN := [(5, (0, 5)), (7, (0, 0)), (6, (0, 2)), (4, (4, 3)), (3, (4, 2)), (2, (4, 1)), (1, (4, 0)), (0, (6, 0))]) (stN := [(0, 5), (0, 5)]) (hsN := jpA_1782) (c1 := 0) (s1 := 0) (c2 := 0) (s2 := 0) (by exact rfl) ?_ (by omega) (by omega)
  refine jT_xiconst (k := 5) (pcN := 33) jI_379_32 rfl ?_
  refine jT_xisub (x := 5) (y := 5) (z := 0) (pcN := 34) jI_379_33 rfl (by decide) rfl ?_
  refine jT_xicT (pcN := 3746) jI_379_34 rfl (by decide +kernel) rfl ?_
  refine jT_xiconst (k := 1) (pcN := 3747) jI_379_3746 rfl ?_
  exact jT_ret rfl (by decide) (by show 50 ≤ 57; decide) (by omega) (by omega) ⟨rfl, rfl⟩
def jpA_1783 : List JC := [jzA_265, jzA_266, jgh, jgh, (8, [(4, 30), (4, 31)], []), jgh, jgh, jgh, jgh, jgh, jgh, (101, [], [0, 0, 0, 0, 0, 0]), jgh, jgh, jzA_721, (100, [], jS0), jgh, jgh, jgh, jgh, (130, [], [37, 38, 39, 40, 41, 42]), (101, [], [0, 0, 0, 0, 0, 0]), jgh, jgh, jgh, jgh, jgh, jgh, jgh, jgh, jgh, (101, [], [0, 0, 0, 0, 0, 0]), jzA_324, (117, [], [44, 45, 46, 47]), jgh, jgh, jgh, (100, [], (jenc (jlg 0))), jgh, jgh, jgh, jgh, jgh, (4, [(4, 48), (1, 1)], []), jgh, jgh, jgh, (7, [(4, 49), (4, (-1)), (4, (-1))], []), (101, [], [0, 0, 0, 0, 0, 0]), (114, [], [43])]
def jpA_1784 : List JC := [jzA_265, jzA_266, jgh, jgh, (8, [(4, 30), (4, 31)], []), jgh, jgh, jgh, jgh, jgh, jgh, (101, [], [0, 0, 0, 0, 0, 0]), jgh, jgh, jzA_721, (100, [], jS0), jgh, jgh, jgh, jgh, (130, [], [37, 38, 39, 40, 41, 42]), (101, [], [0, 0, 0, 0, 0, 0]), jgh, jgh, jgh, jgh, jgh, jgh, jgh, jgh, jgh, (101, [], [0, 0, 0, 0, 0, 0]), jzA_324, (117, [], [44, 45, 46, 47]), jgh, jgh, jgh, (100, [], (jenc (jlg 0))), jgh, jgh, jgh, jgh, jgh, (4, [(4, 48), (1, 1)], []), jgh, jgh, jgh, (7, [(4, 49), (4, (-1)), (4, (-1))], []), (101, [], [0, 0, 0, 0, 0, 0]), (114, [], [43]), (101, [], [0, 0, 0, 0, 0, 0]), (4, [(4, 50), (1, 1)], [])]
def jpA_1785 : List JC := [jzA_265, jzA_606, jgh, jgh, (8, [(4, 30), (4, 31)], []), jgh, jgh, jgh, jgh, jgh, jgh, (101, [], [0, 0, 0, 0, 0, 0]), jgh, jgh, jzA_721, (100, [], jS0), jgh, jgh, jgh, jgh, (130, [], [37, 38, 39, 40, 41, 42]), (101, [], [0, 0, 0, 0, 0, 0]), jgh, jgh, jgh, jgh, jgh, jgh, jgh, jgh, jgh, (101, [], [0, 0, 0, 0, 0, 0]), jzA_324, (117, [], [44, 45, 46, 47]), jgh, jgh, jgh, (100, [], (jenc (jlg 0))), jgh, jgh, jgh, jgh, jgh, (4, [(4, 48), (1, 1)], []), jgh, jgh, jgh, (7, [(4, 49), (4, (-1)), (4, (-1))], []), (101, [], [0, 0, 0, 0, 0, 0]), (114, [], [43]), (101, [], [0, 0, 0, 0, 0, 0]), (4, [(4, 50), (1, 1)], []), (101, [], [0, 0, 0, 0, 0, 0]), (101, [], [(-1), 0, 0, 0, 0, 0]), (100, [], (jenc 0)), (100, [], (jenc (-1))), (100, [], (jenc ((-1) * (jlg 0))))]
set_option maxRecDepth 100000 in
theorem jL_10_13 {d : Nat} {x0 x1 x2 x3 x4 : Int} (h_x0 : (-2147483648) ≤ x0 ∧ x0 ≤ 2147483647) (h_x1 : 3 ≤ x1 ∧ x1 ≤ 3) (h_x2 : 0 ≤ x2 ∧ x2 ≤ 7) (h_x3 : 0 ≤ x3 ∧ x3 ≤ 0) (h_x4 : (-2147483648) ≤ x4 ∧ x4 ≤ 2147483647) : jT [x0, x1, x2, x3, x4] (d + 8) 379 50 1063 [(5, (0, 0)), (4, (4, 3)), (3, (4, 2)), (2, (4, 1)), (1, (4, 0)), (0, (6, 0))] [] jpA_1783 8 194 (fun k v hsN => k = 0 ∧ v = (0, 1)) := by
  refine jT_xaload_n (v := (4, 0)) (pcN := 1064) jI_379_1063 rfl rfl rfl ?_
  refine jT_xaload_n (v := (6, 0)) (pcN := 1065) jI_379_1064 rfl rfl rfl ?_
  refine jT_xiload (v := (0, 0)) (pcN := 1067) jI_379_1065 rfl rfl rfl ?_
  refine jT_xiconst (k := 1) (pcN := 1068) jI_379_1067 rfl ?_
  refine jT_xiadd (x := 0) (y := 1) (z := 1) (pcN := 1069) jI_379_1068 rfl (by decide) rfl ?_
  refine jT_adv 1 (pcN := 1070) (LN := [(5, (0, 0)), (4, (4, 3)), (3, (4, 2)), (2, (4, 1)), (1, (4, 0)), (0, (6, 0))]) (stN := [(0, x1), (4, 0)]) (hsN := jpA_1783) (c1 := 0) (s1 := 0) (c2 := 8) (s2 := 194) (by exact rfl) ?_ (by omega) (by omega)
  refine jT_eq (LN := [(5, (0, 0)), (4, (4, 3)), (3, (4, 2)), (2, (4, 1)), (1, (4, 0)), (0, (6, 0))]) (stN := [(0, 3), (4, 0)]) (hsN := [jzA_265, jzA_266, jgh, jgh, (8, [(4, 30), (4, 31)], []), jgh, jgh, jgh, jgh, jgh, jgh, (101, [], [0, 0, 0, 0, 0, 0]), jgh, jgh, jzA_721, (100, [], jS0), jgh, jgh, jgh, jgh, (130, [], [37, 38, 39, 40, 41, 42]), (101, [], [0, 0, 0, 0, 0, 0]), jgh, jgh, jgh, jgh, jgh, jgh, jgh, jgh, jgh, (101, [], [0, 0, 0, 0, 0, 0]), jzA_324, (117, [], [44, 45, 46, 47]), jgh, jgh, jgh, (100, [], (jenc (jlg 0))), jgh, jgh, jgh, jgh, jgh, (4, [(4, 48), (1, 1)], []), jgh, jgh, jgh, (7, [(4, 49), (4, (-1)), (4, (-1))], []), (101, [], [0, 0, 0, 0, 0, 0]), (114, [], [43])]) (rfl) (by simp only [List.cons.injEq, Prod.mk.injEq, and_true, true_and] <;> ((try unfold jw); (try unfold jwl); omega)) (rfl) ?_
  refine jT_xaload_n (v := (6, 0)) (pcN := 1071) jI_379_1070 rfl rfl rfl ?_
  refine jT_xiload (v := (0, 0)) (pcN := 1073) jI_379_1071 rfl rfl rfl ?_
  refine jT_xiconst (k := 2) (pcN := 1074) jI_379_1073 rfl ?_
  refine jT_xiadd (x := 0) (y := 2) (z := 2) (pcN := 1075) jI_379_1074 rfl (by decide) rfl ?_
  refine jT_adv 1 (pcN := 1076) (LN := [(5, (0, 0)), (4, (4, 3)), (3, (4, 2)), (2, (4, 1)), (1, (4, 0)), (0, (6, 0))]) (stN := [(0, x2), (0, 3), (4, 0)]) (hsN := jpA_1783) (c1 := 0) (s1 := 0) (c2 := 8) (s2 := 194) (by exact rfl) ?_ (by omega) (by omega)
  refine jT_xaload_n (v := (6, 0)) (pcN := 1077) jI_379_1076 rfl rfl rfl ?_
  refine jT_xiload (v := (0, 0)) (pcN := 1079) jI_379_1077 rfl rfl rfl ?_
  refine jT_xiconst (k := 3) (pcN := 1080) jI_379_1079 rfl ?_
  refine jT_xiadd (x := 0) (y := 3) (z := 3) (pcN := 1081) jI_379_1080 rfl (by decide) rfl ?_
  refine jT_adv 1 (pcN := 1082) (LN := [(5, (0, 0)), (4, (4, 3)), (3, (4, 2)), (2, (4, 1)), (1, (4, 0)), (0, (6, 0))]) (stN := [(0, x3), (0, x2), (0, 3), (4, 0)]) (hsN := jpA_1783) (c1 := 0) (s1 := 0) (c2 := 8) (s2 := 194) (by exact rfl) ?_ (by omega) (by omega)
  refine jT_eq (LN := [(5, (0, 0)), (4, (4, 3)), (3, (4, 2)), (2, (4, 1)), (1, (4, 0)), (0, (6, 0))]) (stN := [(0, 0), (0, x2), (0, 3), (4, 0)]) (hsN := [jzA_265, jzA_266, jgh, jgh, (8, [(4, 30), (4, 31)], []), jgh, jgh, jgh, jgh, jgh, jgh, (101, [], [0, 0, 0, 0, 0, 0]), jgh, jgh, jzA_721, (100, [], jS0), jgh, jgh, jgh, jgh, (130, [], [37, 38, 39, 40, 41, 42]), (101, [], [0, 0, 0, 0, 0, 0]), jgh, jgh, jgh, jgh, jgh, jgh, jgh, jgh, jgh, (101, [], [0, 0, 0, 0, 0, 0]), jzA_324, (117, [], [44, 45, 46, 47]), jgh, jgh, jgh, (100, [], (jenc (jlg 0))), jgh, jgh, jgh, jgh, jgh, (4, [(4, 48), (1, 1)], []), jgh, jgh, jgh, (7, [(4, 49), (4, (-1)), (4, (-1))], []), (101, [], [0, 0, 0, 0, 0, 0]), (114, [], [43])]) (rfl) (by simp only [List.cons.injEq, Prod.mk.injEq, and_true, true_and] <;> ((try unfold jw); (try unfold jwl); omega)) (rfl) ?_
  refine jT_xifT (pcN := 1089) jI_379_1082 rfl (by decide +kernel) rfl ?_
  refine jT_xiconst (k := 0) (pcN := 1090) jI_379_1089 rfl ?_
  refine jT_xaload_n (v := (4, 2)) (pcN := 1091) jI_379_1090 rfl rfl rfl ?_
  refine jT_fA [0, 2, 4, 5, 6, 7, 8, 9, 10, 11, 12, 13, 14, 30, 31, 32, 33, 34, 35, 36, 43, 44, 45, 46, 47, 48, 49] 50 (y := 336) (pcN := 1094) (dC := 6) (bc1 := 3) (bc2 := 14) (c1 := 5) (c2 := 180) (as := [(4, 0), (0, 3), (0, x2), (0, 0), (4, 2)]) (asC := [(4, 0), (0, 3), (0, x2), (0, 0), (4, 1)]) (LN := [(5, (0, 0)), (4, (4, 3)), (3, (4, 2)), (2, (4, 1)), (1, (4, 0)), (0, (6, 0))]) (stN := []) (hsC := jpA_1707) (ex := [(101, [], [0, 0, 0, 0, 0, 0]), (4, [(4, 27), (1, 1)], [])]) (v := (0, 2)) (st2 := [(0, 2)]) (hs2 := jpA_1784) (jA_336_427 (d := 0) (by omega)) (by rfl) (by rfl) (by decide +kernel) (by rfl) (by rfl) (by omega) (by omega) (by omega) (by omega) rfl (by decide +kernel) ?_
  refine jT_xistore (v := (0, 2)) (LN := [(6, (0, 2)), (5, (0, 0)), (4, (4, 3)), (3, (4, 2)), (2, (4, 1)), (1, (4, 0)), (0, (6, 0))]) (pcN := 1096) jI_379_1094 rfl rfl rfl rfl ?_
  refine jT_xaload_n (v := (4, 1)) (pcN := 1097) jI_379_1096 rfl rfl rfl ?_
  refine jT_xaload_n (v := (6, 0)) (pcN := 1098) jI_379_1097 rfl rfl rfl ?_
  refine jT_xiload (v := (0, 0)) (pcN := 1100) jI_379_1098 rfl rfl rfl ?_
  refine jT_xiconst (k := 1) (pcN := 1101) jI_379_1100 rfl ?_
  refine jT_xiadd (x := 0) (y := 1) (z := 1) (pcN := 1102) jI_379_1101 rfl (by decide) rfl ?_
  refine jT_adv 1 (pcN := 1103) (LN := [(6, (0, 2)), (5, (0, 0)), (4, (4, 3)), (3, (4, 2)), (2, (4, 1)), (1, (4, 0)), (0, (6, 0))]) (stN := [(0, x1), (4, 1)]) (hsN := jpA_1784) (c1 := 0) (s1 := 0) (c2 := 5) (s2 := 180) (by exact rfl) ?_ (by omega) (by omega)
  refine jT_eq (LN := [(6, (0, 2)), (5, (0, 0)), (4, (4, 3)), (3, (4, 2)), (2, (4, 1)), (1, (4, 0)), (0, (6, 0))]) (stN := [(0, 3), (4, 1)]) (hsN := [jzA_265, jzA_266, jgh, jgh, (8, [(4, 30), (4, 31)], []), jgh, jgh, jgh, jgh, jgh, jgh, (101, [], [0, 0, 0, 0, 0, 0]), jgh, jgh, jzA_721, (100, [], jS0), jgh, jgh, jgh, jgh, (130, [], [37, 38, 39, 40, 41, 42]), (101, [], [0, 0, 0, 0, 0, 0]), jgh, jgh, jgh, jgh, jgh, jgh, jgh, jgh, jgh, (101, [], [0, 0, 0, 0, 0, 0]), jzA_324, (117, [], [44, 45, 46, 47]), jgh, jgh, jgh, (100, [], (jenc (jlg 0))), jgh, jgh, jgh, jgh, jgh, (4, [(4, 48), (1, 1)], []), jgh, jgh, jgh, (7, [(4, 49), (4, (-1)), (4, (-1))], []), (101, [], [0, 0, 0, 0, 0, 0]), (114, [], [43]), (101, [], [0, 0, 0, 0, 0, 0]), (4, [(4, 50), (1, 1)], [])]) (rfl) (by simp only [List.cons.injEq, Prod.mk.injEq, and_true, true_and] <;> ((try unfold jw); (try unfold jwl); omega)) (rfl) ?_
  refine jT_xaload_n (v := (6, 0)) (pcN := 1104) jI_379_1103 rfl rfl rfl ?_
  refine jT_xiload (v := (0, 0)) (pcN := 1106) jI_379_1104 rfl rfl rfl ?_
  refine jT_xiconst (k := 2) (pcN := 1107) jI_379_1106 rfl ?_
  refine jT_xiadd (x := 0) (y := 2) (z := 2) (pcN := 1108) jI_379_1107 rfl (by decide) rfl ?_
  refine jT_adv 1 (pcN := 1109) (LN := [(6, (0, 2)), (5, (0, 0)), (4, (4, 3)), (3, (4, 2)), (2, (4, 1)), (1, (4, 0)), (0, (6, 0))]) (stN := [(0, x2), (0, 3), (4, 1)]) (hsN := jpA_1784) (c1 := 0) (s1 := 0) (c2 := 5) (s2 := 180) (by exact rfl) ?_ (by omega) (by omega)
  refine jT_xaload_n (v := (6, 0)) (pcN := 1110) jI_379_1109 rfl rfl rfl ?_
  refine jT_xiload (v := (0, 0)) (pcN := 1112) jI_379_1110 rfl rfl rfl ?_
  refine jT_xiconst (k := 3) (pcN := 1113) jI_379_1112 rfl ?_
  refine jT_xiadd (x := 0) (y := 3) (z := 3) (pcN := 1114) jI_379_1113 rfl (by decide) rfl ?_
  refine jT_adv 1 (pcN := 1115) (LN := [(6, (0, 2)), (5, (0, 0)), (4, (4, 3)), (3, (4, 2)), (2, (4, 1)), (1, (4, 0)), (0, (6, 0))]) (stN := [(0, x3), (0, x2), (0, 3), (4, 1)]) (hsN := jpA_1784) (c1 := 0) (s1 := 0) (c2 := 5) (s2 := 180) (by exact rfl) ?_ (by omega) (by omega)
  refine jT_eq (LN := [(6, (0, 2)), (5, (0, 0)), (4, (4, 3)), (3, (4, 2)), (2, (4, 1)), (1, (4, 0)), (0, (6, 0))]) (stN := [(0, 0), (0, x2), (0, 3), (4, 1)]) (hsN := [jzA_265, jzA_266, jgh, jgh, (8, [(4, 30), (4, 31)], []), jgh, jgh, jgh, jgh, jgh, jgh, (101, [], [0, 0, 0, 0, 0, 0]), jgh, jgh, jzA_721, (100, [], jS0), jgh, jgh, jgh, jgh, (130, [], [37, 38, 39, 40, 41, 42]), (101, [], [0, 0, 0, 0, 0, 0]), jgh, jgh, jgh, jgh, jgh, jgh, jgh, jgh, jgh, (101, [], [0, 0, 0, 0, 0, 0]), jzA_324, (117, [], [44, 45, 46, 47]), jgh, jgh, jgh, (100, [], (jenc (jlg 0))), jgh, jgh, jgh, jgh, jgh, (4, [(4, 48), (1, 1)], []), jgh, jgh, jgh, (7, [(4, 49), (4, (-1)), (4, (-1))], []), (101, [], [0, 0, 0, 0, 0, 0]), (114, [], [43]), (101, [], [0, 0, 0, 0, 0, 0]), (4, [(4, 50), (1, 1)], [])]) (rfl) (by simp only [List.cons.injEq, Prod.mk.injEq, and_true, true_and] <;> ((try unfold jw); (try unfold jwl); omega)) (rfl) ?_
  refine jT_xifT (pcN := 1122) jI_379_1115 rfl (by decide +kernel) rfl ?_
  refine jT_xiconst (k := 0) (pcN := 1123) jI_379_1122 rfl ?_
  refine jT_fB [1, 15, 16, 17, 18, 19, 20, 21, 22, 23, 24, 25, 26, 27, 28, 29, 37, 38, 39, 40, 41, 42] 52 (y := 243) (pcN := 1126) (dC := 7) (bc1 := 5) (bc2 := 180) (c1 := 0) (c2 := 0) (as := [(4, 1), (0, 3), (0, x2), (0, 0)]) (asC := [(4, 0), (0, 3), (0, x2), (0, 0)]) (LN := [(6, (0, 2)), (5, (0, 0)), (4, (4, 3)), (3, (4, 2)), (2, (4, 1)), (1, (4, 0)), (0, (6, 0))]) (stN := []) (hsC := jpA_1695) (hsD := jpA_1693) (v := (0, 0)) (st2 := [(0, 0)]) (hs2 := jpA_1785) (jA_243_428 (d := 0) (by omega)) (by rfl) (by rfl) (by decide +kernel) (by rfl) (by rfl) (by omega) (by omega) (by omega) (by omega) rfl (by decide +kernel) ?_
  refine jT_xistore (v := (0, 0)) (LN := [(7, (0, 0)), (6, (0, 2)), (5, (0, 0)), (4, (4, 3)), (3, (4, 2)), (2, (4, 1)), (1, (4, 0)), (0, (6, 0))]) (pcN := 1128) jI_379_1126 rfl rfl rfl rfl ?_
  refine jT_xaload_n (v := (4, 1)) (pcN := 1129) jI_379_1128 rfl rfl rfl ?_
  refine jT_fR [1, 15, 16, 17, 18, 19, 20, 21, 22, 23, 24, 25, 26, 27, 28, 29] 57 (y := 186) (pcN := 1132) (dC := 0) (bc1 := 0) (bc2 := 0) (c1 := 0) (c2 := 0) (as := [(4, 1)]) (asC := [(4, 0)]) (LN := [(7, (0, 0)), (6, (0, 2)), (5, (0, 0)), (4, (4, 3)), (3, (4, 2)), (2, (4, 1)), (1, (4, 0)), (0, (6, 0))]) (stN := []) (hsC := jpA_361) (v := (0, 2)) (st2 := [(0, 2)]) (jA_186_101 (d := 0)) (by rfl) (by rfl) (by decide +kernel) (by rfl) (by rfl) (by omega) (by omega) (by omega) (by omega) rfl ?_
  refine jT_xiload (v := (0, 2)) (pcN := 1134) jI_379_1132 rfl rfl rfl ?_
  refine jT_xicT (pcN := 1139) jI_379_1134 rfl (by decide +kernel) rfl ?_
  refine jT_xiload (v := (0, 2)) (pcN := 1141) jI_379_1139 rfl rfl rfl ?_
  refine jT_xifT (pcN := 1163) jI_379_1141 rfl (by decide +kernel) rfl ?_
  refine jT_xgoto (pcN := 3740) jI_379_1163 rfl ?_
  refine jT_xiinc (x := 0) (z := 5) (LN := [(5, (0, 5)), (7, (0, 0)), (6, (0, 2)), (4, (4, 3)), (3, (4, 2)), (2, (4, 1)), (1, (4, 0)), (0, (6, 0))]) (pcN := 3743) jI_379_3740 rfl rfl (by decide) rfl rfl ?_
  refine jT_xgoto (pcN := 28) jI_379_3743 rfl ?_
  refine jT_xiload (v := (0, 5)) (pcN := 30) jI_379_28 rfl rfl rfl ?_
  refine jT_xaload_n (v := (6, 0)) (pcN := 31) jI_379_30 rfl rfl rfl ?_
  refine jT_adv 1 (pcN := 32) (LN := [(5, (0, 5)), (7, (0, 0)), (6, (0, 2)), (4, (4, 3)), (3, (4, 2)), (2, (4, 1)), (1, (4, 0)), (0, (6, 0))]) (stN := [(0, 5), (0, 5)]) (hsN := jpA_1785) (c1 := 0) (s1 := 0) (c2 := 0) (s2 := 0) (by exact rfl) ?_ (by omega) (by omega)
  refine jT_xiconst (k := 5) (pcN := 33) jI_379_32 rfl ?_
  refine jT_xisub (x := 5) (y := 5) (z := 0) (pcN := 34) jI_379_33 rfl (by decide) rfl ?_
  refine jT_xicT (pcN := 3746) jI_379_34 rfl (by decide +kernel) rfl ?_
  refine jT_xiconst (k := 1) (pcN := 3747) jI_379_3746 rfl ?_
  exact jT_ret rfl (by decide) (by show 50 ≤ 57; decide) (by omega) (by omega) ⟨rfl, rfl⟩
set_option maxRecDepth 100000 in
theorem jL_10_14 {d : Nat} {x0 x1 x2 x3 x4 : Int} (h_x0 : (-2147483648) ≤ x0 ∧ x0 ≤ 2147483647) (h_x1 : 0 ≤ x1 ∧ x1 ≤ 3) (h_x2 : 8 ≤ x2 ∧ x2 ≤ 2147483647) (h_x3 : 0 ≤ x3 ∧ x3 ≤ 0) (h_x4 : (-2147483648) ≤ x4 ∧ x4 ≤ 2147483647) : jT [x0, x1, x2, x3, x4] (d + 3) 379 30 1063 [(5, (0, 0)), (4, (4, 3)), (3, (4, 2)), (2, (4, 1)), (1, (4, 0)), (0, (6, 0))] [] jpA_267 1 6 (fun k v hsN => k = 0 ∧ v = (0, 1)) := by
  refine jT_xaload_n (v := (4, 0)) (pcN := 1064) jI_379_1063 rfl rfl rfl ?_
  refine jT_xaload_n (v := (6, 0)) (pcN := 1065) jI_379_1064 rfl rfl rfl ?_
  refine jT_xiload (v := (0, 0)) (pcN := 1067) jI_379_1065 rfl rfl rfl ?_
  refine jT_xiconst (k := 1) (pcN := 1068) jI_379_1067 rfl ?_
  refine jT_xiadd (x := 0) (y := 1) (z := 1) (pcN := 1069) jI_379_1068 rfl (by decide) rfl ?_
  refine jT_adv 1 (pcN := 1070) (LN := [(5, (0, 0)), (4, (4, 3)), (3, (4, 2)), (2, (4, 1)), (1, (4, 0)), (0, (6, 0))]) (stN := [(0, x1), (4, 0)]) (hsN := jpA_267) (c1 := 0) (s1 := 0) (c2 := 1) (s2 := 6) (by exact rfl) ?_ (by omega) (by omega)
  refine jT_xaload_n (v := (6, 0)) (pcN := 1071) jI_379_1070 rfl rfl rfl ?_
  refine jT_xiload (v := (0, 0)) (pcN := 1073) jI_379_1071 rfl rfl rfl ?_
  refine jT_xiconst (k := 2) (pcN := 1074) jI_379_1073 rfl ?_
  refine jT_xiadd (x := 0) (y := 2) (z := 2) (pcN := 1075) jI_379_1074 rfl (by decide) rfl ?_
  refine jT_adv 1 (pcN := 1076) (LN := [(5, (0, 0)), (4, (4, 3)), (3, (4, 2)), (2, (4, 1)), (1, (4, 0)), (0, (6, 0))]) (stN := [(0, x2), (0, x1), (4, 0)]) (hsN := jpA_267) (c1 := 0) (s1 := 0) (c2 := 1) (s2 := 6) (by exact rfl) ?_ (by omega) (by omega)
  refine jT_xaload_n (v := (6, 0)) (pcN := 1077) jI_379_1076 rfl rfl rfl ?_
  refine jT_xiload (v := (0, 0)) (pcN := 1079) jI_379_1077 rfl rfl rfl ?_
  refine jT_xiconst (k := 3) (pcN := 1080) jI_379_1079 rfl ?_
  refine jT_xiadd (x := 0) (y := 3) (z := 3) (pcN := 1081) jI_379_1080 rfl (by decide) rfl ?_
  refine jT_adv 1 (pcN := 1082) (LN := [(5, (0, 0)), (4, (4, 3)), (3, (4, 2)), (2, (4, 1)), (1, (4, 0)), (0, (6, 0))]) (stN := [(0, x3), (0, x2), (0, x1), (4, 0)]) (hsN := jpA_267) (c1 := 0) (s1 := 0) (c2 := 1) (s2 := 6) (by exact rfl) ?_ (by omega) (by omega)
  refine jT_eq (LN := [(5, (0, 0)), (4, (4, 3)), (3, (4, 2)), (2, (4, 1)), (1, (4, 0)), (0, (6, 0))]) (stN := [(0, 0), (0, x2), (0, x1), (4, 0)]) (hsN := [jzA_265, jzA_266, jgh, jgh, jgh, jgh, jgh, jgh, jgh, jgh, jgh, jgh, jgh, jgh, jgh, jgh, jgh, jgh, jgh, jgh, jgh, jgh, jgh, jgh, jgh, jgh, jgh, jgh, jgh, jgh]) (rfl) (by simp only [List.cons.injEq, Prod.mk.injEq, and_true, true_and] <;> ((try unfold jw); (try unfold jwl); omega)) (rfl) ?_
  refine jT_xifT (pcN := 1089) jI_379_1082 rfl (by decide +kernel) rfl ?_
  refine jT_xiconst (k := 0) (pcN := 1090) jI_379_1089 rfl ?_
  refine jT_xaload_n (v := (4, 2)) (pcN := 1091) jI_379_1090 rfl rfl rfl ?_
  refine jT_fR [0, 2, 4, 5, 6, 7, 8, 9, 10, 11, 12, 13, 14] 30 (y := 336) (pcN := 1094) (dC := 2) (bc1 := 1) (bc2 := 6) (c1 := 0) (c2 := 0) (as := [(4, 0), (0, x1), (0, x2), (0, 0), (4, 2)]) (asC := [(4, 0), (0, x1), (0, x2), (0, 0), (4, 1)]) (LN := [(5, (0, 0)), (4, (4, 3)), (3, (4, 2)), (2, (4, 1)), (1, (4, 0)), (0, (6, 0))]) (stN := []) (hsC := jpA_15) (v := (0, 1)) (st2 := [(0, 1)]) (jA_336_430 (d := 0) (by omega) (by omega)) (by rfl) (by rfl) (by decide +kernel) (by rfl) (by rfl) (by omega) (by omega) (by omega) (by omega) rfl ?_
  refine jT_xistore (v := (0, 1)) (LN := [(6, (0, 1)), (5, (0, 0)), (4, (4, 3)), (3, (4, 2)), (2, (4, 1)), (1, (4, 0)), (0, (6, 0))]) (pcN := 1096) jI_379_1094 rfl rfl rfl rfl ?_
  refine jT_xaload_n (v := (4, 1)) (pcN := 1097) jI_379_1096 rfl rfl rfl ?_
  refine jT_xaload_n (v := (6, 0)) (pcN := 1098) jI_379_1097 rfl rfl rfl ?_
  refine jT_xiload (v := (0, 0)) (pcN := 1100) jI_379_1098 rfl rfl rfl ?_
  refine jT_xiconst (k := 1) (pcN := 1101) jI_379_1100 rfl ?_
  refine jT_xiadd (x := 0) (y := 1) (z := 1) (pcN := 1102) jI_379_1101 rfl (by decide) rfl ?_
  refine jT_adv 1 (pcN := 1103) (LN := [(6, (0, 1)), (5, (0, 0)), (4, (4, 3)), (3, (4, 2)), (2, (4, 1)), (1, (4, 0)), (0, (6, 0))]) (stN := [(0, x1), (4, 1)]) (hsN := jpA_267) (c1 := 0) (s1 := 0) (c2 := 0) (s2 := 0) (by exact rfl) ?_ (by omega) (by omega)
  refine jT_xaload_n (v := (6, 0)) (pcN := 1104) jI_379_1103 rfl rfl rfl ?_
  refine jT_xiload (v := (0, 0)) (pcN := 1106) jI_379_1104 rfl rfl rfl ?_
  refine jT_xiconst (k := 2) (pcN := 1107) jI_379_1106 rfl ?_
  refine jT_xiadd (x := 0) (y := 2) (z := 2) (pcN := 1108) jI_379_1107 rfl (by decide) rfl ?_
  refine jT_adv 1 (pcN := 1109) (LN := [(6, (0, 1)), (5, (0, 0)), (4, (4, 3)), (3, (4, 2)), (2, (4, 1)), (1, (4, 0)), (0, (6, 0))]) (stN := [(0, x2), (0, x1), (4, 1)]) (hsN := jpA_267) (c1 := 0) (s1 := 0) (c2 := 0) (s2 := 0) (by exact rfl) ?_ (by omega) (by omega)
  refine jT_xaload_n (v := (6, 0)) (pcN := 1110) jI_379_1109 rfl rfl rfl ?_
  refine jT_xiload (v := (0, 0)) (pcN := 1112) jI_379_1110 rfl rfl rfl ?_
  refine jT_xiconst (k := 3) (pcN := 1113) jI_379_1112 rfl ?_
  refine jT_xiadd (x := 0) (y := 3) (z := 3) (pcN := 1114) jI_379_1113 rfl (by decide) rfl ?_
  refine jT_adv 1 (pcN := 1115) (LN := [(6, (0, 1)), (5, (0, 0)), (4, (4, 3)), (3, (4, 2)), (2, (4, 1)), (1, (4, 0)), (0, (6, 0))]) (stN := [(0, x3), (0, x2), (0, x1), (4, 1)]) (hsN := jpA_267) (c1 := 0) (s1 := 0) (c2 := 0) (s2 := 0) (by exact rfl) ?_ (by omega) (by omega)
  refine jT_eq (LN := [(6, (0, 1)), (5, (0, 0)), (4, (4, 3)), (3, (4, 2)), (2, (4, 1)), (1, (4, 0)), (0, (6, 0))]) (stN := [(0, 0), (0, x2), (0, x1), (4, 1)]) (hsN := [jzA_265, jzA_266, jgh, jgh, jgh, jgh, jgh, jgh, jgh, jgh, jgh, jgh, jgh, jgh, jgh, jgh, jgh, jgh, jgh, jgh, jgh, jgh, jgh, jgh, jgh, jgh, jgh, jgh, jgh, jgh]) (rfl) (by simp only [List.cons.injEq, Prod.mk.injEq, and_true, true_and] <;> ((try unfold jw); (try unfold jwl); omega)) (rfl) ?_
  refine jT_xifT (pcN := 1122) jI_379_1115 rfl (by decide +kernel) rfl ?_
  refine jT_xiconst (k := 0) (pcN := 1123) jI_379_1122 rfl ?_
  refine jT_fB [1, 15, 16, 17, 18, 19, 20, 21, 22, 23, 24, 25, 26, 27, 28, 29] 30 (y := 243) (pcN := 1126) (dC := 2) (bc1 := 0) (bc2 := 0) (c1 := 0) (c2 := 0) (as := [(4, 1), (0, x1), (0, x2), (0, 0)]) (asC := [(4, 0), (0, x1), (0, x2), (0, 0)]) (LN := [(6, (0, 1)), (5, (0, 0)), (4, (4, 3)), (3, (4, 2)), (2, (4, 1)), (1, (4, 0)), (0, (6, 0))]) (stN := []) (hsC := jpA_22) (hsD := jpA_20) (v := (0, 0)) (st2 := [(0, 0)]) (hs2 := jpA_306) (jA_243_431 (d := 0) (by omega) (by omega)) (by rfl) (by rfl) (by decide +kernel) (by rfl) (by rfl) (by omega) (by omega) (by omega) (by omega) rfl (by decide +kernel) ?_
  refine jT_xistore (v := (0, 0)) (LN := [(7, (0, 0)), (6, (0, 1)), (5, (0, 0)), (4, (4, 3)), (3, (4, 2)), (2, (4, 1)), (1, (4, 0)), (0, (6, 0))]) (pcN := 1128) jI_379_1126 rfl rfl rfl rfl ?_
  refine jT_xaload_n (v := (4, 1)) (pcN := 1129) jI_379_1128 rfl rfl rfl ?_
  refine jT_fR [1, 15, 16, 17, 18, 19, 20, 21, 22, 23, 24, 25, 26, 27, 28, 29] 30 (y := 186) (pcN := 1132) (dC := 0) (bc1 := 0) (bc2 := 0) (c1 := 0) (c2 := 0) (as := [(4, 1)]) (asC := [(4, 0)]) (LN := [(7, (0, 0)), (6, (0, 1)), (5, (0, 0)), (4, (4, 3)), (3, (4, 2)), (2, (4, 1)), (1, (4, 0)), (0, (6, 0))]) (stN := []) (hsC := jpA_20) (v := (0, 1)) (st2 := [(0, 1)]) (jA_186_8 (d := 0)) (by rfl) (by rfl) (by decide +kernel) (by rfl) (by rfl) (by omega) (by omega) (by omega) (by omega) rfl ?_
  refine jT_xiload (v := (0, 1)) (pcN := 1134) jI_379_1132 rfl rfl rfl ?_
  refine jT_xicT (pcN := 1139) jI_379_1134 rfl (by decide +kernel) rfl ?_
  refine jT_xiload (v := (0, 1)) (pcN := 1141) jI_379_1139 rfl rfl rfl ?_
  refine jT_xifT (pcN := 1163) jI_379_1141 rfl (by decide +kernel) rfl ?_
  refine jT_xgoto (pcN := 3740) jI_379_1163 rfl ?_
  refine jT_xiinc (x := 0) (z := 5) (LN := [(5, (0, 5)), (7, (0, 0)), (6, (0, 1)), (4, (4, 3)), (3, (4, 2)), (2, (4, 1)), (1, (4, 0)), (0, (6, 0))]) (pcN := 3743) jI_379_3740 rfl rfl (by decide) rfl rfl ?_
  refine jT_xgoto (pcN := 28) jI_379_3743 rfl ?_
  refine jT_xiload (v := (0, 5)) (pcN := 30) jI_379_28 rfl rfl rfl ?_
  refine jT_xaload_n (v := (6, 0)) (pcN := 31) jI_379_30 rfl rfl rfl ?_
  refine jT_adv 1 (pcN := 32) (LN := [(5, (0, 5)), (7, (0, 0)), (6, (0, 1)), (4, (4, 3)), (3, (4, 2)), (2, (4, 1)), (1, (4, 0)), (0, (6, 0))]) (stN := [(0, 5), (0, 5)]) (hsN := jpA_306) (c1 := 0) (s1 := 0) (c2 := 0) (s2 := 0) (by exact rfl) ?_ (by omega) (by omega)
  refine jT_xiconst (k := 5) (pcN := 33) jI_379_32 rfl ?_
  refine jT_xisub (x := 5) (y := 5) (z := 0) (pcN := 34) jI_379_33 rfl (by decide) rfl ?_
  refine jT_xicT (pcN := 3746) jI_379_34 rfl (by decide +kernel) rfl ?_
  refine jT_xiconst (k := 1) (pcN := 3747) jI_379_3746 rfl ?_
  exact jT_ret rfl (by decide) (by show 30 ≤ 30; decide) (by omega) (by omega) ⟨rfl, rfl⟩
set_option maxRecDepth 100000 in
theorem jL_10_15 {d : Nat} {x0 x1 x2 x3 x4 : Int} (h_x0 : (-2147483648) ≤ x0 ∧ x0 ≤ 2147483647) (h_x1 : 4 ≤ x1 ∧ x1 ≤ 2147483647) (h_x2 : (-2147483648) ≤ x2 ∧ x2 ≤ 2147483647) (h_x3 : 0 ≤ x3 ∧ x3 ≤ 0) (h_x4 : (-2147483648) ≤ x4 ∧ x4 ≤ 2147483647) : jT [x0, x1, x2, x3, x4] (d + 3) 379 30 1063 [(5, (0, 0)), (4, (4, 3)), (3, (4, 2)), (2, (4, 1)), (1, (4, 0)), (0, (6, 0))] [] jpA_267 1 6 (fun k v hsN => k = 0 ∧ v = (0, 1)) := by
  refine jT_xaload_n (v := (4, 0)) (pcN := 1064) jI_379_1063 rfl rfl rfl ?_
  refine jT_xaload_n (v := (6, 0)) (pcN := 1065) jI_379_1064 rfl rfl rfl ?_
  refine jT_xiload (v := (0, 0)) (pcN := 1067) jI_379_1065 rfl rfl rfl ?_
  refine jT_xiconst (k := 1) (pcN := 1068) jI_379_1067 rfl ?_
  refine jT_xiadd (x := 0) (y := 1) (z := 1) (pcN := 1069) jI_379_1068 rfl (by decide) rfl ?_
  refine jT_adv 1 (pcN := 1070) (LN := [(5, (0, 0)), (4, (4, 3)), (3, (4, 2)), (2, (4, 1)), (1, (4, 0)), (0, (6, 0))]) (stN := [(0, x1), (4, 0)]) (hsN := jpA_267) (c1 := 0) (s1 := 0) (c2 := 1) (s2 := 6) (by exact rfl) ?_ (by omega) (by omega)
  refine jT_xaload_n (v := (6, 0)) (pcN := 1071) jI_379_1070 rfl rfl rfl ?_
  refine jT_xiload (v := (0, 0)) (pcN := 1073) jI_379_1071 rfl rfl rfl ?_
  refine jT_xiconst (k := 2) (pcN := 1074) jI_379_1073 rfl ?_
  refine jT_xiadd (x := 0) (y := 2) (z := 2) (pcN := 1075) jI_379_1074 rfl (by decide) rfl ?_
  refine jT_adv 1 (pcN := 1076) (LN := [(5, (0, 0)), (4, (4, 3)), (3, (4, 2)), (2, (4, 1)), (1, (4, 0)), (0, (6, 0))]) (stN := [(0, x2), (0, x1), (4, 0)]) (hsN := jpA_267) (c1 := 0) (s1 := 0) (c2 := 1) (s2 := 6) (by exact rfl) ?_ (by omega) (by omega)
  refine jT_xaload_n (v := (6, 0)) (pcN := 1077) jI_379_1076 rfl rfl rfl ?_
  refine jT_xiload (v := (0, 0)) (pcN := 1079) jI_379_1077 rfl rfl rfl ?_
  refine jT_xiconst (k := 3) (pcN := 1080) jI_379_1079 rfl ?_
  refine jT_xiadd (x := 0) (y := 3) (z := 3) (pcN := 1081) jI_379_1080 rfl (by decide) rfl ?_
  refine jT_adv 1 (pcN := 1082) (LN := [(5, (0, 0)), (4, (4, 3)), (3, (4, 2)), (2, (4, 1)), (1, (4, 0)), (0, (6, 0))]) (stN := [(0, x3), (0, x2), (0, x1), (4, 0)]) (hsN := jpA_267) (c1 := 0) (s1 := 0) (c2 := 1) (s2 := 6) (by exact rfl) ?_ (by omega) (by omega)
  refine jT_eq (LN := [(5, (0, 0)), (4, (4, 3)), (3, (4, 2)), (2, (4, 1)), (1, (4, 0)), (0, (6, 0))]) (stN := [(0, 0), (0, x2), (0, x1), (4, 0)]) (hsN := [jzA_265, jzA_266, jgh, jgh, jgh, jgh, jgh, jgh, jgh, jgh, jgh, jgh, jgh, jgh, jgh, jgh, jgh, jgh, jgh, jgh, jgh, jgh, jgh, jgh, jgh, jgh, jgh, jgh, jgh, jgh]) (rfl) (by simp only [List.cons.injEq, Prod.mk.injEq, and_true, true_and] <;> ((try unfold jw); (try unfold jwl); omega)) (rfl) ?_
  refine jT_xifT (pcN := 1089) jI_379_1082 rfl (by decide +kernel) rfl ?_
  refine jT_xiconst (k := 0) (pcN := 1090) jI_379_1089 rfl ?_
  refine jT_xaload_n (v := (4, 2)) (pcN := 1091) jI_379_1090 rfl rfl rfl ?_
  refine jT_fR [0, 2, 4, 5, 6, 7, 8, 9, 10, 11, 12, 13, 14] 30 (y := 336) (pcN := 1094) (dC := 2) (bc1 := 1) (bc2 := 6) (c1 := 0) (c2 := 0) (as := [(4, 0), (0, x1), (0, x2), (0, 0), (4, 2)]) (asC := [(4, 0), (0, x1), (0, x2), (0, 0), (4, 1)]) (LN := [(5, (0, 0)), (4, (4, 3)), (3, (4, 2)), (2, (4, 1)), (1, (4, 0)), (0, (6, 0))]) (stN := []) (hsC := jpA_15) (v := (0, 1)) (st2 := [(0, 1)]) (jA_336_433 (d := 0) (by omega) (by omega)) (by rfl) (by rfl) (by decide +kernel) (by rfl) (by rfl) (by omega) (by omega) (by omega) (by omega) rfl ?_
  refine jT_xistore (v := (0, 1)) (LN := [(6, (0, 1)), (5, (0, 0)), (4, (4, 3)), (3, (4, 2)), (2, (4, 1)), (1, (4, 0)), (0, (6, 0))]) (pcN := 1096) jI_379_1094 rfl rfl rfl rfl ?_
  refine jT_xaload_n (v := (4, 1)) (pcN := 1097) jI_379_1096 rfl rfl rfl ?_
  refine jT_xaload_n (v := (6, 0)) (pcN := 1098) jI_379_1097 rfl rfl rfl ?_
  refine jT_xiload (v := (0, 0)) (pcN := 1100) jI_379_1098 rfl rfl rfl ?_
  refine jT_xiconst (k := 1) (pcN := 1101) jI_379_1100 rfl ?_
  refine jT_xiadd (x := 0) (y := 1) (z := 1) (pcN := 1102) jI_379_1101 rfl (by decide) rfl ?_
  refine jT_adv 1 (pcN := 1103) (LN := [(6, (0, 1)), (5, (0, 0)), (4, (4, 3)), (3, (4, 2)), (2, (4, 1)), (1, (4, 0)), (0, (6, 0))]) (stN := [(0, x1), (4, 1)]) (hsN := jpA_267) (c1 := 0) (s1 := 0) (c2 := 0) (s2 := 0) (by exact rfl) ?_ (by omega) (by omega)
  refine jT_xaload_n (v := (6, 0)) (pcN := 1104) jI_379_1103 rfl rfl rfl ?_
  refine jT_xiload (v := (0, 0)) (pcN := 1106) jI_379_1104 rfl rfl rfl ?_
  refine jT_xiconst (k := 2) (pcN := 1107) jI_379_1106 rfl ?_
  refine jT_xiadd (x := 0) (y := 2) (z := 2) (pcN := 1108) jI_379_1107 rfl (by decide) rfl ?_
  refine jT_adv 1 (pcN := 1109) (LN := [(6, (0, 1)), (5, (0, 0)), (4, (4, 3)), (3, (4, 2)), (2, (4, 1)), (1, (4, 0)), (0, (6, 0))]) (stN := [(0, x2), (0, x1), (4, 1)]) (hsN := jpA_267) (c1 := 0) (s1 := 0) (c2 := 0) (s2 := 0) (by exact rfl) ?_ (by omega) (by omega)
  refine jT_xaload_n (v := (6, 0)) (pcN := 1110) jI_379_1109 rfl rfl rfl ?_
  refine jT_xiload (v := (0, 0)) (pcN := 1112) jI_379_1110 rfl rfl rfl ?_
  refine jT_xiconst (k := 3) (pcN := 1113) jI_379_1112 rfl ?_
  refine jT_xiadd (x := 0) (y := 3) (z := 3) (pcN := 1114) jI_379_1113 rfl (by decide) rfl ?_
  refine jT_adv 1 (pcN := 1115) (LN := [(6, (0, 1)), (5, (0, 0)), (4, (4, 3)), (3, (4, 2)), (2, (4, 1)), (1, (4, 0)), (0, (6, 0))]) (stN := [(0, x3), (0, x2), (0, x1), (4, 1)]) (hsN := jpA_267) (c1 := 0) (s1 := 0) (c2 := 0) (s2 := 0) (by exact rfl) ?_ (by omega) (by omega)
  refine jT_eq (LN := [(6, (0, 1)), (5, (0, 0)), (4, (4, 3)), (3, (4, 2)), (2, (4, 1)), (1, (4, 0)), (0, (6, 0))]) (stN := [(0, 0), (0, x2), (0, x1), (4, 1)]) (hsN := [jzA_265, jzA_266, jgh, jgh, jgh, jgh, jgh, jgh, jgh, jgh, jgh, jgh, jgh, jgh, jgh, jgh, jgh, jgh, jgh, jgh, jgh, jgh, jgh, jgh, jgh, jgh, jgh, jgh, jgh, jgh]) (rfl) (by simp only [List.cons.injEq, Prod.mk.injEq, and_true, true_and] <;> ((try unfold jw); (try unfold jwl); omega)) (rfl) ?_
  refine jT_xifT (pcN := 1122) jI_379_1115 rfl (by decide +kernel) rfl ?_
  refine jT_xiconst (k := 0) (pcN := 1123) jI_379_1122 rfl ?_
  refine jT_fB [1, 15, 16, 17, 18, 19, 20, 21, 22, 23, 24, 25, 26, 27, 28, 29] 30 (y := 243) (pcN := 1126) (dC := 2) (bc1 := 0) (bc2 := 0) (c1 := 0) (c2 := 0) (as := [(4, 1), (0, x1), (0, x2), (0, 0)]) (asC := [(4, 0), (0, x1), (0, x2), (0, 0)]) (LN := [(6, (0, 1)), (5, (0, 0)), (4, (4, 3)), (3, (4, 2)), (2, (4, 1)), (1, (4, 0)), (0, (6, 0))]) (stN := []) (hsC := jpA_22) (hsD := jpA_20) (v := (0, 0)) (st2 := [(0, 0)]) (hs2 := jpA_306) (jA_243_434 (d := 0) (by omega) (by omega)) (by rfl) (by rfl) (by decide +kernel) (by rfl) (by rfl) (by omega) (by omega) (by omega) (by omega) rfl (by decide +kernel) ?_
  refine jT_xistore (v := (0, 0)) (LN := [(7, (0, 0)), (6, (0, 1)), (5, (0, 0)), (4, (4, 3)), (3, (4, 2)), (2, (4, 1)), (1, (4, 0)), (0, (6, 0))]) (pcN := 1128) jI_379_1126 rfl rfl rfl rfl ?_
  refine jT_xaload_n (v := (4, 1)) (pcN := 1129) jI_379_1128 rfl rfl rfl ?_
  refine jT_fR [1, 15, 16, 17, 18, 19, 20, 21, 22, 23, 24, 25, 26, 27, 28, 29] 30 (y := 186) (pcN := 1132) (dC := 0) (bc1 := 0) (bc2 := 0) (c1 := 0) (c2 := 0) (as := [(4, 1)]) (asC := [(4, 0)]) (LN := [(7, (0, 0)), (6, (0, 1)), (5, (0, 0)), (4, (4, 3)), (3, (4, 2)), (2, (4, 1)), (1, (4, 0)), (0, (6, 0))]) (stN := []) (hsC := jpA_20) (v := (0, 1)) (st2 := [(0, 1)]) (jA_186_8 (d := 0)) (by rfl) (by rfl) (by decide +kernel) (by rfl) (by rfl) (by omega) (by omega) (by omega) (by omega) rfl ?_
  refine jT_xiload (v := (0, 1)) (pcN := 1134) jI_379_1132 rfl rfl rfl ?_
  refine jT_xicT (pcN := 1139) jI_379_1134 rfl (by decide +kernel) rfl ?_
  refine jT_xiload (v := (0, 1)) (pcN := 1141) jI_379_1139 rfl rfl rfl ?_
  refine jT_xifT (pcN := 1163) jI_379_1141 rfl (by decide +kernel) rfl ?_
  refine jT_xgoto (pcN := 3740) jI_379_1163 rfl ?_
  refine jT_xiinc (x := 0) (z := 5) (LN := [(5, (0, 5)), (7, (0, 0)), (6, (0, 1)), (4, (4, 3)), (3, (4, 2)), (2, (4, 1)), (1, (4, 0)), (0, (6, 0))]) (pcN := 3743) jI_379_3740 rfl rfl (by decide) rfl rfl ?_
  refine jT_xgoto (pcN := 28) jI_379_3743 rfl ?_
  refine jT_xiload (v := (0, 5)) (pcN := 30) jI_379_28 rfl rfl rfl ?_
  refine jT_xaload_n (v := (6, 0)) (pcN := 31) jI_379_30 rfl rfl rfl ?_
  refine jT_adv 1 (pcN := 32) (LN := [(5, (0, 5)), (7, (0, 0)), (6, (0, 1)), (4, (4, 3)), (3, (4, 2)), (2, (4, 1)), (1, (4, 0)), (0, (6, 0))]) (stN := [(0, 5), (0, 5)]) (hsN := jpA_306) (c1 := 0) (s1 := 0) (c2 := 0) (s2 := 0) (by exact rfl) ?_ (by omega) (by omega)
  refine jT_xiconst (k := 5) (pcN := 33) jI_379_32 rfl ?_
  refine jT_xisub (x := 5) (y := 5) (z := 0) (pcN := 34) jI_379_33 rfl (by decide) rfl ?_
  refine jT_xicT (pcN := 3746) jI_379_34 rfl (by decide +kernel) rfl ?_
  refine jT_xiconst (k := 1) (pcN := 3747) jI_379_3746 rfl ?_
  exact jT_ret rfl (by decide) (by show 30 ≤ 30; decide) (by omega) (by omega) ⟨rfl, rfl⟩
set_option maxRecDepth 100000 in
theorem jL_10_16 {d : Nat} {x0 x1 x2 x3 x4 : Int} (h_x0 : (-2147483648) ≤ x0 ∧ x0 ≤ 2147483647) (h_x1 : (-2147483648) ≤ x1 ∧ x1 ≤ (-1)) (h_x2 : (-2147483648) ≤ x2 ∧ x2 ≤ 2147483647) (h_x3 : 1 ≤ x3 ∧ x3 ≤ 2147483647) (h_x4 : (-2147483648) ≤ x4 ∧ x4 ≤ 2147483647) : jT [x0, x1, x2, x3, x4] (d + 3) 379 30 1063 [(5, (0, 0)), (4, (4, 3)), (3, (4, 2)), (2, (4, 1)), (1, (4, 0)), (0, (6, 0))] [] jpA_267 1 6 (fun k v hsN => k = 0 ∧ v = (0, 1)) := by
  refine jT_xaload_n (v := (4, 0)) (pcN := 1064) jI_379_1063 rfl rfl rfl ?_
  refine jT_xaload_n (v := (6, 0)) (pcN := 1065) jI_379_1064 rfl rfl rfl ?_
  refine jT_xiload (v := (0, 0)) (pcN := 1067) jI_379_1065 rfl rfl rfl ?_
  refine jT_xiconst (k := 1) (pcN := 1068) jI_379_1067 rfl ?_
  refine jT_xiadd (x := 0) (y := 1) (z := 1) (pcN := 1069) jI_379_1068 rfl (by decide) rfl ?_
  refine jT_adv 1 (pcN := 1070) (LN := [(5, (0, 0)), (4, (4, 3)), (3, (4, 2)), (2, (4, 1)), (1, (4, 0)), (0, (6, 0))]) (stN := [(0, x1), (4, 0)]) (hsN := jpA_267) (c1 := 0) (s1 := 0) (c2 := 1) (s2 := 6) (by exact rfl) ?_ (by omega) (by omega)
  refine jT_xaload_n (v := (6, 0)) (pcN := 1071) jI_379_1070 rfl rfl rfl ?_
  refine jT_xiload (v := (0, 0)) (pcN := 1073) jI_379_1071 rfl rfl rfl ?_
  refine jT_xiconst (k := 2) (pcN := 1074) jI_379_1073 rfl ?_
  refine jT_xiadd (x := 0) (y := 2) (z := 2) (pcN := 1075) jI_379_1074 rfl (by decide) rfl ?_
  refine jT_adv 1 (pcN := 1076) (LN := [(5, (0, 0)), (4, (4, 3)), (3, (4, 2)), (2, (4, 1)), (1, (4, 0)), (0, (6, 0))]) (stN := [(0, x2), (0, x1), (4, 0)]) (hsN := jpA_267) (c1 := 0) (s1 := 0) (c2 := 1) (s2 := 6) (by exact rfl) ?_ (by omega) (by omega)
  refine jT_xaload_n (v := (6, 0)) (pcN := 1077) jI_379_1076 rfl rfl rfl ?_
  refine jT_xiload (v := (0, 0)) (pcN := 1079) jI_379_1077 rfl rfl rfl ?_
  refine jT_xiconst (k := 3) (pcN := 1080) jI_379_1079 rfl ?_
  refine jT_xiadd (x := 0) (y := 3) (z := 3) (pcN := 1081) jI_379_1080 rfl (by decide) rfl ?_
  refine jT_adv 1 (pcN := 1082) (LN := [(5, (0, 0)), (4, (4, 3)), (3, (4, 2)), (2, (4, 1)), (1, (4, 0)), (0, (6, 0))]) (stN := [(0, x3), (0, x2), (0, x1), (4, 0)]) (hsN := jpA_267) (c1 := 0) (s1 := 0) (c2 := 1) (s2 := 6) (by exact rfl) ?_ (by omega) (by omega)
  refine jT_ifF (a := x3) (t := 1089) (by rfl) (by rfl) (by rfl) (jw_idd (by omega) (by omega)) (by simp only [jcP] <;> omega) ?_
  refine jT_xiconst (k := 1) (pcN := 1086) jI_379_1085 rfl ?_
  refine jT_xgoto (pcN := 1090) jI_379_1086 rfl ?_
  refine jT_xaload_n (v := (4, 2)) (pcN := 1091) jI_379_1090 rfl rfl rfl ?_
  refine jT_fR [0, 2, 4, 5, 6, 7, 8, 9, 10, 11, 12, 13, 14] 30 (y := 336) (pcN := 1094) (dC := 2) (bc1 := 1) (bc2 := 6) (c1 := 0) (c2 := 0) (as := [(4, 0), (0, x1), (0, x2), (0, 1), (4, 2)]) (asC := [(4, 0), (0, x1), (0, x2), (0, 1), (4, 1)]) (LN := [(5, (0, 0)), (4, (4, 3)), (3, (4, 2)), (2, (4, 1)), (1, (4, 0)), (0, (6, 0))]) (stN := []) (hsC := jpA_15) (v := (0, 1)) (st2 := [(0, 1)]) (jA_336_312 (d := 0) (by omega) (by omega)) (by rfl) (by rfl) (by decide +kernel) (by rfl) (by rfl) (by omega) (by omega) (by omega) (by omega) rfl ?_
  refine jT_xistore (v := (0, 1)) (LN := [(6, (0, 1)), (5, (0, 0)), (4, (4, 3)), (3, (4, 2)), (2, (4, 1)), (1, (4, 0)), (0, (6, 0))]) (pcN := 1096) jI_379_1094 rfl rfl rfl rfl ?_
  refine jT_xaload_n (v := (4, 1)) (pcN := 1097) jI_379_1096 rfl rfl rfl ?_
  refine jT_xaload_n (v := (6, 0)) (pcN := 1098) jI_379_1097 rfl rfl rfl ?_
  refine jT_xiload (v := (0, 0)) (pcN := 1100) jI_379_1098 rfl rfl rfl ?_
  refine jT_xiconst (k := 1) (pcN := 1101) jI_379_1100 rfl ?_
  refine jT_xiadd (x := 0) (y := 1) (z := 1) (pcN := 1102) jI_379_1101 rfl (by decide) rfl ?_
  refine jT_adv 1 (pcN := 1103) (LN := [(6, (0, 1)), (5, (0, 0)), (4, (4, 3)), (3, (4, 2)), (2, (4, 1)), (1, (4, 0)), (0, (6, 0))]) (stN := [(0, x1), (4, 1)]) (hsN := jpA_267) (c1 := 0) (s1 := 0) (c2 := 0) (s2 := 0) (by exact rfl) ?_ (by omega) (by omega)
  refine jT_xaload_n (v := (6, 0)) (pcN := 1104) jI_379_1103 rfl rfl rfl ?_
  refine jT_xiload (v := (0, 0)) (pcN := 1106) jI_379_1104 rfl rfl rfl ?_
  refine jT_xiconst (k := 2) (pcN := 1107) jI_379_1106 rfl ?_
  refine jT_xiadd (x := 0) (y := 2) (z := 2) (pcN := 1108) jI_379_1107 rfl (by decide) rfl ?_
  refine jT_adv 1 (pcN := 1109) (LN := [(6, (0, 1)), (5, (0, 0)), (4, (4, 3)), (3, (4, 2)), (2, (4, 1)), (1, (4, 0)), (0, (6, 0))]) (stN := [(0, x2), (0, x1), (4, 1)]) (hsN := jpA_267) (c1 := 0) (s1 := 0) (c2 := 0) (s2 := 0) (by exact rfl) ?_ (by omega) (by omega)
  refine jT_xaload_n (v := (6, 0)) (pcN := 1110) jI_379_1109 rfl rfl rfl ?_
  refine jT_xiload (v := (0, 0)) (pcN := 1112) jI_379_1110 rfl rfl rfl ?_
  refine jT_xiconst (k := 3) (pcN := 1113) jI_379_1112 rfl ?_
  refine jT_xiadd (x := 0) (y := 3) (z := 3) (pcN := 1114) jI_379_1113 rfl (by decide) rfl ?_
  refine jT_adv 1 (pcN := 1115) (LN := [(6, (0, 1)), (5, (0, 0)), (4, (4, 3)), (3, (4, 2)), (2, (4, 1)), (1, (4, 0)), (0, (6, 0))]) (stN := [(0, x3), (0, x2), (0, x1), (4, 1)]) (hsN := jpA_267) (c1 := 0) (s1 := 0) (c2 := 0) (s2 := 0) (by exact rfl) ?_ (by omega) (by omega)
  refine jT_ifF (a := x3) (t := 1122) (by rfl) (by rfl) (by rfl) (jw_idd (by omega) (by omega)) (by simp only [jcP] <;> omega) ?_
  refine jT_xiconst (k := 1) (pcN := 1119) jI_379_1118 rfl ?_
  refine jT_xgoto (pcN := 1123) jI_379_1119 rfl ?_
  refine jT_fB [1, 15, 16, 17, 18, 19, 20, 21, 22, 23, 24, 25, 26, 27, 28, 29] 30 (y := 243) (pcN := 1126) (dC := 2) (bc1 := 0) (bc2 := 0) (c1 := 0) (c2 := 0) (as := [(4, 1), (0, x1), (0, x2), (0, 1)]) (asC := [(4, 0), (0, x1), (0, x2), (0, 1)]) (LN := [(6, (0, 1)), (5, (0, 0)), (4, (4, 3)), (3, (4, 2)), (2, (4, 1)), (1, (4, 0)), (0, (6, 0))]) (stN := []) (hsC := jpA_22) (hsD := jpA_20) (v := (0, 0)) (st2 := [(0, 0)]) (hs2 := jpA_306) (jA_243_314 (d := 0) (by omega) (by omega)) (by rfl) (by rfl) (by decide +kernel) (by rfl) (by rfl) (by omega) (by omega) (by omega) (by omega) rfl (by decide +kernel) ?_
  refine jT_xistore (v := (0, 0)) (LN := [(7, (0, 0)), (6, (0, 1)), (5, (0, 0)), (4, (4, 3)), (3, (4, 2)), (2, (4, 1)), (1, (4, 0)), (0, (6, 0))]) (pcN := 1128) jI_379_1126 rfl rfl rfl rfl ?_
  refine jT_xaload_n (v := (4, 1)) (pcN := 1129) jI_379_1128 rfl rfl rfl ?_
  refine jT_fR [1, 15, 16, 17, 18, 19, 20, 21, 22, 23, 24, 25, 26, 27, 28, 29] 30 (y := 186) (pcN := 1132) (dC := 0) (bc1 := 0) (bc2 := 0) (c1 := 0) (c2 := 0) (as := [(4, 1)]) (asC := [(4, 0)]) (LN := [(7, (0, 0)), (6, (0, 1)), (5, (0, 0)), (4, (4, 3)), (3, (4, 2)), (2, (4, 1)), (1, (4, 0)), (0, (6, 0))]) (stN := []) (hsC := jpA_20) (v := (0, 1)) (st2 := [(0, 1)]) (jA_186_8 (d := 0)) (by rfl) (by rfl) (by decide +kernel) (by rfl) (by rfl) (by omega) (by omega) (by omega) (by omega) rfl ?_
  refine jT_xiload (v := (0, 1)) (pcN := 1134) jI_379_1132 rfl rfl rfl ?_
  refine jT_xicT (pcN := 1139) jI_379_1134 rfl (by decide +kernel) rfl ?_
  refine jT_xiload (v := (0, 1)) (pcN := 1141) jI_379_1139 rfl rfl rfl ?_
  refine jT_xifT (pcN := 1163) jI_379_1141 rfl (by decide +kernel) rfl ?_
  refine jT_xgoto (pcN := 3740) jI_379_1163 rfl ?_
  refine jT_xiinc (x := 0) (z := 5) (LN := [(5, (0, 5)), (7, (0, 0)), (6, (0, 1)), (4, (4, 3)), (3, (4, 2)), (2, (4, 1)), (1, (4, 0)), (0, (6, 0))]) (pcN := 3743) jI_379_3740 rfl rfl (by decide) rfl rfl ?_
  refine jT_xgoto (pcN := 28) jI_379_3743 rfl ?_
  refine jT_xiload (v := (0, 5)) (pcN := 30) jI_379_28 rfl rfl rfl ?_
  refine jT_xaload_n (v := (6, 0)) (pcN := 31) jI_379_30 rfl rfl rfl ?_
  refine jT_adv 1 (pcN := 32) (LN := [(5, (0, 5)), (7, (0, 0)), (6, (0, 1)), (4, (4, 3)), (3, (4, 2)), (2, (4, 1)), (1, (4, 0)), (0, (6, 0))]) (stN := [(0, 5), (0, 5)]) (hsN := jpA_306) (c1 := 0) (s1 := 0) (c2 := 0) (s2 := 0) (by exact rfl) ?_ (by omega) (by omega)
  refine jT_xiconst (k := 5) (pcN := 33) jI_379_32 rfl ?_
  refine jT_xisub (x := 5) (y := 5) (z := 0) (pcN := 34) jI_379_33 rfl (by decide) rfl ?_
  refine jT_xicT (pcN := 3746) jI_379_34 rfl (by decide +kernel) rfl ?_
  refine jT_xiconst (k := 1) (pcN := 3747) jI_379_3746 rfl ?_
  exact jT_ret rfl (by decide) (by show 30 ≤ 30; decide) (by omega) (by omega) ⟨rfl, rfl⟩
set_option maxRecDepth 100000 in
theorem jL_10_17 {d : Nat} {x0 x1 x2 x3 x4 : Int} (h_x0 : (-2147483648) ≤ x0 ∧ x0 ≤ 2147483647) (h_x1 : 0 ≤ x1 ∧ x1 ≤ 3) (h_x2 : (-2147483648) ≤ x2 ∧ x2 ≤ (-1)) (h_x3 : 1 ≤ x3 ∧ x3 ≤ 2147483647) (h_x4 : (-2147483648) ≤ x4 ∧ x4 ≤ 2147483647) : jT [x0, x1, x2, x3, x4] (d + 3) 379 30 1063 [(5, (0, 0)), (4, (4, 3)), (3, (4, 2)), (2, (4, 1)), (1, (4, 0)), (0, (6, 0))] [] jpA_267 1 6 (fun k v hsN => k = 0 ∧ v = (0, 1)) := by
  refine jT_xaload_n (v := (4, 0)) (pcN := 1064) jI_379_1063 rfl rfl rfl ?_
  refine jT_xaload_n (v := (6, 0)) (pcN := 1065) jI_379_1064 rfl rfl rfl ?_
  refine jT_xiload (v := (0, 0)) (pcN := 1067) jI_379_1065 rfl rfl rfl ?_
  refine jT_xiconst (k := 1) (pcN := 1068) jI_379_1067 rfl ?_
  refine jT_xiadd (x := 0) (y := 1) (z := 1) (pcN := 1069) jI_379_1068 rfl (by decide) rfl ?_
  refine jT_adv 1 (pcN := 1070) (LN := [(5, (0, 0)), (4, (4, 3)), (3, (4, 2)), (2, (4, 1)), (1, (4, 0)), (0, (6, 0))]) (stN := [(0, x1), (4, 0)]) (hsN := jpA_267) (c1 := 0) (s1 := 0) (c2 := 1) (s2 := 6) (by exact rfl) ?_ (by omega) (by omega)
  refine jT_xaload_n (v := (6, 0)) (pcN := 1071) jI_379_1070 rfl rfl rfl ?_
  refine jT_xiload (v := (0, 0)) (pcN := 1073) jI_379_1071 rfl rfl rfl ?_
  refine jT_xiconst (k := 2) (pcN := 1074) jI_379_1073 rfl ?_
  refine jT_xiadd (x := 0) (y := 2) (z := 2) (pcN := 1075) jI_379_1074 rfl (by decide) rfl ?_
  refine jT_adv 1 (pcN := 1076) (LN := [(5, (0, 0)), (4, (4, 3)), (3, (4, 2)), (2, (4, 1)), (1, (4, 0)), (0, (6, 0))]) (stN := [(0, x2), (0, x1), (4, 0)]) (hsN := jpA_267) (c1 := 0) (s1 := 0) (c2 := 1) (s2 := 6) (by exact rfl) ?_ (by omega) (by omega)
  refine jT_xaload_n (v := (6, 0)) (pcN := 1077) jI_379_1076 rfl rfl rfl ?_
  refine jT_xiload (v := (0, 0)) (pcN := 1079) jI_379_1077 rfl rfl rfl ?_
  refine jT_xiconst (k := 3) (pcN := 1080) jI_379_1079 rfl ?_
  refine jT_xiadd (x := 0) (y := 3) (z := 3) (pcN := 1081) jI_379_1080 rfl (by decide) rfl ?_
  refine jT_adv 1 (pcN := 1082) (LN := [(5, (0, 0)), (4, (4, 3)), (3, (4, 2)), (2, (4, 1)), (1, (4, 0)), (0, (6, 0))]) (stN := [(0, x3), (0, x2), (0, x1), (4, 0)]) (hsN := jpA_267) (c1 := 0) (s1 := 0) (c2 := 1) (s2 := 6) (by exact rfl) ?_ (by omega) (by omega)
  refine jT_ifF (a := x3) (t := 1089) (by rfl) (by rfl) (by rfl) (jw_idd (by omega) (by omega)) (by simp only [jcP] <;> omega) ?_
  refine jT_xiconst (k := 1) (pcN := 1086) jI_379_1085 rfl ?_
  refine jT_xgoto (pcN := 1090) jI_379_1086 rfl ?_
  refine jT_xaload_n (v := (4, 2)) (pcN := 1091) jI_379_1090 rfl rfl rfl ?_
  refine jT_fR [0, 2, 4, 5, 6, 7, 8, 9, 10, 11, 12, 13, 14] 30 (y := 336) (pcN := 1094) (dC := 2) (bc1 := 1) (bc2 := 6) (c1 := 0) (c2 := 0) (as := [(4, 0), (0, x1), (0, x2), (0, 1), (4, 2)]) (asC := [(4, 0), (0, x1), (0, x2), (0, 1), (4, 1)]) (LN := [(5, (0, 0)), (4, (4, 3)), (3, (4, 2)), (2, (4, 1)), (1, (4, 0)), (0, (6, 0))]) (stN := []) (hsC := jpA_15) (v := (0, 1)) (st2 := [(0, 1)]) (jA_336_317 (d := 0) (by omega) (by omega)) (by rfl) (by rfl) (by decide +kernel) (by rfl) (by rfl) (by omega) (by omega) (by omega) (by omega) rfl ?_
  refine jT_xistore (v := (0, 1)) (LN := [(6, (0, 1)), (5, (0, 0)), (4, (4, 3)), (3, (4, 2)), (2, (4, 1)), (1, (4, 0)), (0, (6, 0))]) (pcN := 1096) jI_379_1094 rfl rfl rfl rfl ?_
  refine jT_xaload_n (v := (4, 1)) (pcN := 1097) jI_379_1096 rfl rfl rfl ?_
  refine jT_xaload_n (v := (6, 0)) (pcN := 1098) jI_379_1097 rfl rfl rfl ?_
  refine jT_xiload (v := (0, 0)) (pcN := 1100) jI_379_1098 rfl rfl rfl ?_
  refine jT_xiconst (k := 1) (pcN := 1101) jI_379_1100 rfl ?_
  refine jT_xiadd (x := 0) (y := 1) (z := 1) (pcN := 1102) jI_379_1101 rfl (by decide) rfl ?_
  refine jT_adv 1 (pcN := 1103) (LN := [(6, (0, 1)), (5, (0, 0)), (4, (4, 3)), (3, (4, 2)), (2, (4, 1)), (1, (4, 0)), (0, (6, 0))]) (stN := [(0, x1), (4, 1)]) (hsN := jpA_267) (c1 := 0) (s1 := 0) (c2 := 0) (s2 := 0) (by exact rfl) ?_ (by omega) (by omega)
  refine jT_xaload_n (v := (6, 0)) (pcN := 1104) jI_379_1103 rfl rfl rfl ?_
  refine jT_xiload (v := (0, 0)) (pcN := 1106) jI_379_1104 rfl rfl rfl ?_
  refine jT_xiconst (k := 2) (pcN := 1107) jI_379_1106 rfl ?_
  refine jT_xiadd (x := 0) (y := 2) (z := 2) (pcN := 1108) jI_379_1107 rfl (by decide) rfl ?_
  refine jT_adv 1 (pcN := 1109) (LN := [(6, (0, 1)), (5, (0, 0)), (4, (4, 3)), (3, (4, 2)), (2, (4, 1)), (1, (4, 0)), (0, (6, 0))]) (stN := [(0, x2), (0, x1), (4, 1)]) (hsN := jpA_267) (c1 := 0) (s1 := 0) (c2 := 0) (s2 := 0) (by exact rfl) ?_ (by omega) (by omega)
  refine jT_xaload_n (v := (6, 0)) (pcN := 1110) jI_379_1109 rfl rfl rfl ?_
  refine jT_xiload (v := (0, 0)) (pcN := 1112) jI_379_1110 rfl rfl rfl ?_
  refine jT_xiconst (k := 3) (pcN := 1113) jI_379_1112 rfl ?_
  refine jT_xiadd (x := 0) (y := 3) (z := 3) (pcN := 1114) jI_379_1113 rfl (by decide) rfl ?_
  refine jT_adv 1 (pcN := 1115) (LN := [(6, (0, 1)), (5, (0, 0)), (4, (4, 3)), (3, (4, 2)), (2, (4, 1)), (1, (4, 0)), (0, (6, 0))]) (stN := [(0, x3), (0, x2), (0, x1), (4, 1)]) (hsN := jpA_267) (c1 := 0) (s1 := 0) (c2 := 0) (s2 := 0) (by exact rfl) ?_ (by omega) (by omega)
  refine jT_ifF (a := x3) (t := 1122) (by rfl) (by rfl) (by rfl) (jw_idd (by omega) (by omega)) (by simp only [jcP] <;> omega) ?_
  refine jT_xiconst (k := 1) (pcN := 1119) jI_379_1118 rfl ?_
  refine jT_xgoto (pcN := 1123) jI_379_1119 rfl ?_
  refine jT_fB [1, 15, 16, 17, 18, 19, 20, 21, 22, 23, 24, 25, 26, 27, 28, 29] 30 (y := 243) (pcN := 1126) (dC := 2) (bc1 := 0) (bc2 := 0) (c1 := 0) (c2 := 0) (as := [(4, 1), (0, x1), (0, x2), (0, 1)]) (asC := [(4, 0), (0, x1), (0, x2), (0, 1)]) (LN := [(6, (0, 1)), (5, (0, 0)), (4, (4, 3)), (3, (4, 2)), (2, (4, 1)), (1, (4, 0)), (0, (6, 0))]) (stN := []) (hsC := jpA_22) (hsD := jpA_20) (v := (0, 0)) (st2 := [(0, 0)]) (hs2 := jpA_306) (jA_243_319 (d := 0) (by omega) (by omega)) (by rfl) (by rfl) (by decide +kernel) (by rfl) (by rfl) (by omega) (by omega) (by omega) (by omega) rfl (by decide +kernel) ?_
  refine jT_xistore (v := (0, 0)) (LN := [(7, (0, 0)), (6, (0, 1)), (5, (0, 0)), (4, (4, 3)), (3, (4, 2)), (2, (4, 1)), (1, (4, 0)), (0, (6, 0))]) (pcN := 1128) jI_379_1126 rfl rfl rfl rfl ?_
  refine jT_xaload_n (v := (4, 1)) (pcN := 1129) jI_379_1128 rfl rfl rfl ?_
  refine jT_fR [1, 15, 16, 17, 18, 19, 20, 21, 22, 23, 24, 25, 26, 27, 28, 29] 30 (y := 186) (pcN := 1132) (dC := 0) (bc1 := 0) (bc2 := 0) (c1 := 0) (c2 := 0) (as := [(4, 1)]) (asC := [(4, 0)]) (LN := [(7, (0, 0)), (6, (0, 1)), (5, (0, 0)), (4, (4, 3)), (3, (4, 2)), (2, (4, 1)), (1, (4, 0)), (0, (6, 0))]) (stN := []) (hsC := jpA_20) (v := (0, 1)) (st2 := [(0, 1)]) (jA_186_8 (d := 0)) (by rfl) (by rfl) (by decide +kernel) (by rfl) (by rfl) (by omega) (by omega) (by omega) (by omega) rfl ?_
  refine jT_xiload (v := (0, 1)) (pcN := 1134) jI_379_1132 rfl rfl rfl ?_
  refine jT_xicT (pcN := 1139) jI_379_1134 rfl (by decide +kernel) rfl ?_
  refine jT_xiload (v := (0, 1)) (pcN := 1141) jI_379_1139 rfl rfl rfl ?_
  refine jT_xifT (pcN := 1163) jI_379_1141 rfl (by decide +kernel) rfl ?_
  refine jT_xgoto (pcN := 3740) jI_379_1163 rfl ?_
  refine jT_xiinc (x := 0) (z := 5) (LN := [(5, (0, 5)), (7, (0, 0)), (6, (0, 1)), (4, (4, 3)), (3, (4, 2)), (2, (4, 1)), (1, (4, 0)), (0, (6, 0))]) (pcN := 3743) jI_379_3740 rfl rfl (by decide) rfl rfl ?_
  refine jT_xgoto (pcN := 28) jI_379_3743 rfl ?_
  refine jT_xiload (v := (0, 5)) (pcN := 30) jI_379_28 rfl rfl rfl ?_
  refine jT_xaload_n (v := (6, 0)) (pcN := 31) jI_379_30 rfl rfl rfl ?_
  refine jT_adv 1 (pcN := 32) (LN := [(5, (0, 5)), (7, (0, 0)), (6, (0, 1)), (4, (4, 3)), (3, (4, 2)), (2, (4, 1)), (1, (4, 0)), (0, (6, 0))]) (stN := [(0, 5), (0, 5)]) (hsN := jpA_306) (c1 := 0) (s1 := 0) (c2 := 0) (s2 := 0) (by exact rfl) ?_ (by omega) (by omega)
  refine jT_xiconst (k := 5) (pcN := 33) jI_379_32 rfl ?_
  refine jT_xisub (x := 5) (y := 5) (z := 0) (pcN := 34) jI_379_33 rfl (by decide) rfl ?_
  refine jT_xicT (pcN := 3746) jI_379_34 rfl (by decide +kernel) rfl ?_
  refine jT_xiconst (k := 1) (pcN := 3747) jI_379_3746 rfl ?_
  exact jT_ret rfl (by decide) (by show 30 ≤ 30; decide) (by omega) (by omega) ⟨rfl, rfl⟩
set_option maxRecDepth 100000 in
theorem jL_10_18 {d : Nat} {x0 x1 x2 x3 x4 : Int} (h_x0 : (-2147483648) ≤ x0 ∧ x0 ≤ 2147483647) (h_x1 : 0 ≤ x1 ∧ x1 ≤ 0) (h_x2 : 0 ≤ x2 ∧ x2 ≤ 7) (h_x3 : 1 ≤ x3 ∧ x3 ≤ 2147483647) (h_x4 : (-2147483648) ≤ x4 ∧ x4 ≤ 2147483647) : jT [x0, x1, x2, x3, x4] (d + 8) 379 58 1063 [(5, (0, 0)), (4, (4, 3)), (3, (4, 2)), (2, (4, 1)), (1, (4, 0)), (0, (6, 0))] [] jpA_1749 14 216 (fun k v hsN => k = 0 ∧ v = (0, 1)) := by
  refine jT_xaload_n (v := (4, 0)) (pcN := 1064) jI_379_1063 rfl rfl rfl ?_
  refine jT_xaload_n (v := (6, 0)) (pcN := 1065) jI_379_1064 rfl rfl rfl ?_
  refine jT_xiload (v := (0, 0)) (pcN := 1067) jI_379_1065 rfl rfl rfl ?_
  refine jT_xiconst (k := 1) (pcN := 1068) jI_379_1067 rfl ?_
  refine jT_xiadd (x := 0) (y := 1) (z := 1) (pcN := 1069) jI_379_1068 rfl (by decide) rfl ?_
  refine jT_adv 1 (pcN := 1070) (LN := [(5, (0, 0)), (4, (4, 3)), (3, (4, 2)), (2, (4, 1)), (1, (4, 0)), (0, (6, 0))]) (stN := [(0, x1), (4, 0)]) (hsN := jpA_1749) (c1 := 0) (s1 := 0) (c2 := 14) (s2 := 216) (by exact rfl) ?_ (by omega) (by omega)
  refine jT_eq (LN := [(5, (0, 0)), (4, (4, 3)), (3, (4, 2)), (2, (4, 1)), (1, (4, 0)), (0, (6, 0))]) (stN := [(0, 0), (4, 0)]) (hsN := [jzA_265, jzA_266, (101, [], [0]), jgh, (8, [(4, 30), (4, 31)], []), jgh, jgh, jgh, jgh, jgh, jgh, (101, [], [0, 0, 0, 0, 0, 0]), jgh, jzA_79, jzA_721, (100, [], jS0), (100, [], []), jzA_722, jzA_197, jgh, (130, [], [45, 46, 47, 48, 49, 50]), (101, [], [0, 0, 0, 0, 0, 0]), (100, [], (List.replicate 1792 0)), jgh, jgh, jgh, jgh, jgh, jgh, jgh, jgh, (101, [], [0, 0, 0, 0, 0, 0]), jzA_723, (117, [], [52, 53, 54, 55]), jgh, jgh, jgh, (100, [], (List.replicate 1613 0)), jgh, jgh, jgh, jgh, jgh, jgh, jgh, (100, [], (jenc (jlg 0))), jgh, jgh, jgh, jgh, jgh, (4, [(4, 56), (1, 1)], []), (7, [(4, 57), (4, (-1)), (4, (-1))], []), jgh, jgh, jgh, (101, [], [0, 0, 0, 0, 0, 0]), (114, [], [51])]) (rfl) (by simp only [List.cons.injEq, Prod.mk.injEq, and_true, true_and] <;> ((try unfold jw); (try unfold jwl); omega)) (rfl) ?_
  refine jT_xaload_n (v := (6, 0)) (pcN := 1071) jI_379_1070 rfl rfl rfl ?_
  refine jT_xiload (v := (0, 0)) (pcN := 1073) jI_379_1071 rfl rfl rfl ?_
  refine jT_xiconst (k := 2) (pcN := 1074) jI_379_1073 rfl ?_
  refine jT_xiadd (x := 0) (y := 2) (z := 2) (pcN := 1075) jI_379_1074 rfl (by decide) rfl ?_
  refine jT_adv 1 (pcN := 1076) (LN := [(5, (0, 0)), (4, (4, 3)), (3, (4, 2)), (2, (4, 1)), (1, (4, 0)), (0, (6, 0))]) (stN := [(0, x2), (0, 0), (4, 0)]) (hsN := jpA_1749) (c1 := 0) (s1 := 0) (c2 := 14) (s2 := 216) (by exact rfl) ?_ (by omega) (by omega)
  refine jT_xaload_n (v := (6, 0)) (pcN := 1077) jI_379_1076 rfl rfl rfl ?_
  refine jT_xiload (v := (0, 0)) (pcN := 1079) jI_379_1077 rfl rfl rfl ?_
  refine jT_xiconst (k := 3) (pcN := 1080) jI_379_1079 rfl ?_
  refine jT_xiadd (x := 0) (y := 3) (z := 3) (pcN := 1081) jI_379_1080 rfl (by decide) rfl ?_
  refine jT_adv 1 (pcN := 1082) (LN := [(5, (0, 0)), (4, (4, 3)), (3, (4, 2)), (2, (4, 1)), (1, (4, 0)), (0, (6, 0))]) (stN := [(0, x3), (0, x2), (0, 0), (4, 0)]) (hsN := jpA_1749) (c1 := 0) (s1 := 0) (c2 := 14) (s2 := 216) (by exact rfl) ?_ (by omega) (by omega)
  refine jT_ifF (a := x3) (t := 1089) (by rfl) (by rfl) (by rfl) (jw_idd (by omega) (by omega)) (by simp only [jcP] <;> omega) ?_
  refine jT_xiconst (k := 1) (pcN := 1086) jI_379_1085 rfl ?_
  refine jT_xgoto (pcN := 1090) jI_379_1086 rfl ?_
  refine jT_xaload_n (v := (4, 2)) (pcN := 1091) jI_379_1090 rfl rfl rfl ?_
  refine jT_fB [0, 2, 4, 5, 6, 7, 8, 9, 10, 11, 12, 13, 14, 30, 31, 32, 33, 34, 35, 36, 51, 52, 53, 54, 55, 56, 57] 58 (y := 336) (pcN := 1094) (dC := 7) (bc1 := 7) (bc2 := 23) (c1 := 7) (c2 := 193) (as := [(4, 0), (0, 0), (0, x2), (0, 1), (4, 2)]) (asC := [(4, 0), (0, 0), (0, x2), (0, 1), (4, 1)]) (LN := [(5, (0, 0)), (4, (4, 3)), (3, (4, 2)), (2, (4, 1)), (1, (4, 0)), (0, (6, 0))]) (stN := []) (hsC := jpA_1518) (hsD := jpA_1515) (v := (0, 0)) (st2 := [(0, 0)]) (hs2 := jpA_1752) (jA_336_336 (d := 0) (by omega)) (by rfl) (by rfl) (by decide +kernel) (by rfl) (by rfl) (by omega) (by omega) (by omega) (by omega) rfl (by decide +kernel) ?_
  refine jT_xistore (v := (0, 0)) (LN := [(6, (0, 0)), (5, (0, 0)), (4, (4, 3)), (3, (4, 2)), (2, (4, 1)), (1, (4, 0)), (0, (6, 0))]) (pcN := 1096) jI_379_1094 rfl rfl rfl rfl ?_
  refine jT_xaload_n (v := (4, 1)) (pcN := 1097) jI_379_1096 rfl rfl rfl ?_
  refine jT_xaload_n (v := (6, 0)) (pcN := 1098) jI_379_1097 rfl rfl rfl ?_
  refine jT_xiload (v := (0, 0)) (pcN := 1100) jI_379_1098 rfl rfl rfl ?_
  refine jT_xiconst (k := 1) (pcN := 1101) jI_379_1100 rfl ?_
  refine jT_xiadd (x := 0) (y := 1) (z := 1) (pcN := 1102) jI_379_1101 rfl (by decide) rfl ?_
  refine jT_adv 1 (pcN := 1103) (LN := [(6, (0, 0)), (5, (0, 0)), (4, (4, 3)), (3, (4, 2)), (2, (4, 1)), (1, (4, 0)), (0, (6, 0))]) (stN := [(0, x1), (4, 1)]) (hsN := jpA_1752) (c1 := 0) (s1 := 0) (c2 := 7) (s2 := 193) (by exact rfl) ?_ (by omega) (by omega)
  refine jT_eq (LN := [(6, (0, 0)), (5, (0, 0)), (4, (4, 3)), (3, (4, 2)), (2, (4, 1)), (1, (4, 0)), (0, (6, 0))]) (stN := [(0, 0), (4, 1)]) (hsN := [jzA_1750, jzA_266, (101, [], [1]), jgh, (8, [(4, 30), (4, 31)], []), jgh, jgh, jgh, jgh, jgh, jgh, (101, [], [0, 0, 0, 0, 0, 0]), jgh, jzA_327, jzA_721, (100, [], jS0), (100, [], []), jzA_722, jzA_197, jgh, (130, [], [45, 46, 47, 48, 49, 50]), (101, [], [0, 0, 0, 0, 0, 0]), (100, [], (List.replicate 1792 0)), jgh, jgh, jgh, jgh, jgh, jgh, jgh, jgh, (101, [], [0, 0, 0, 0, 0, 0]), jzA_723, (117, [], [52, 53, 54, 55]), jgh, jgh, jgh, (100, [], (List.replicate 1613 0)), jgh, jgh, jgh, jgh, jgh, jgh, jgh, (100, [], (jenc (jlg 0))), jgh, jgh, jgh, jgh, jgh, (4, [(4, 56), (1, 1)], []), (7, [(4, 57), (4, (-1)), (4, (-1))], []), jgh, jgh, jgh, (101, [], [0, 0, 0, 0, 0, 0]), (114, [], [51]), (101, [], [0, 0, 0, 0, 0, 0]), (4, [(4, 58), (1, 1)], []), (114, [], [51, (-1)]), (114, [], [51]), (7, [(4, 61), (4, (-1)), (4, (-1))], []), (117, [], [62, 53, 54, 55]), jzA_1751]) (rfl) (by simp only [List.cons.injEq, Prod.mk.injEq, and_true, true_and] <;> ((try unfold jw); (try unfold jwl); omega)) (rfl) ?_
  refine jT_xaload_n (v := (6, 0)) (pcN := 1104) jI_379_1103 rfl rfl rfl ?_
  refine jT_xiload (v := (0, 0)) (pcN := 1106) jI_379_1104 rfl rfl rfl ?_
  refine jT_xiconst (k := 2) (pcN := 1107) jI_379_1106 rfl ?_
  refine jT_xiadd (x := 0) (y := 2) (z := 2) (pcN := 1108) jI_379_1107 rfl (by decide) rfl ?_
  refine jT_adv 1 (pcN := 1109) (LN := [(6, (0, 0)), (5, (0, 0)), (4, (4, 3)), (3, (4, 2)), (2, (4, 1)), (1, (4, 0)), (0, (6, 0))]) (stN := [(0, x2), (0, 0), (4, 1)]) (hsN := jpA_1752) (c1 := 0) (s1 := 0) (c2 := 7) (s2 := 193) (by exact rfl) ?_ (by omega) (by omega)
  refine jT_xaload_n (v := (6, 0)) (pcN := 1110) jI_379_1109 rfl rfl rfl ?_
  refine jT_xiload (v := (0, 0)) (pcN := 1112) jI_379_1110 rfl rfl rfl ?_
  refine jT_xiconst (k := 3) (pcN := 1113) jI_379_1112 rfl ?_
  refine jT_xiadd (x := 0) (y := 3) (z := 3) (pcN := 1114) jI_379_1113 rfl (by decide) rfl ?_
  refine jT_adv 1 (pcN := 1115) (LN := [(6, (0, 0)), (5, (0, 0)), (4, (4, 3)), (3, (4, 2)), (2, (4, 1)), (1, (4, 0)), (0, (6, 0))]) (stN := [(0, x3), (0, x2), (0, 0), (4, 1)]) (hsN := jpA_1752) (c1 := 0) (s1 := 0) (c2 := 7) (s2 := 193) (by exact rfl) ?_ (by omega) (by omega)
  refine jT_ifF (a := x3) (t := 1122) (by rfl) (by rfl) (by rfl) (jw_idd (by omega) (by omega)) (by simp only [jcP] <;> omega) ?_
  refine jT_xiconst (k := 1) (pcN := 1119) jI_379_1118 rfl ?_
  refine jT_xgoto (pcN := 1123) jI_379_1119 rfl ?_
  refine jT_fB [1, 15, 16, 17, 18, 19, 20, 21, 22, 23, 24, 25, 26, 27, 28, 29, 37, 38, 39, 40, 41, 42, 43, 44, 45, 46, 47, 48, 49, 50] 65 (y := 243) (pcN := 1126) (dC := 7) (bc1 := 7) (bc2 := 193) (c1 := 0) (c2 := 0) (as := [(4, 1), (0, 0), (0, x2), (0, 1)]) (asC := [(4, 0), (0, 0), (0, x2), (0, 1)]) (LN := [(6, (0, 0)), (5, (0, 0)), (4, (4, 3)), (3, (4, 2)), (2, (4, 1)), (1, (4, 0)), (0, (6, 0))]) (stN := []) (hsC := jpA_1632) (hsD := jpA_1630) (v := (0, 1)) (st2 := [(0, 1)]) (hs2 := jpA_1754) (jA_243_354 (d := 0) (by omega)) (by rfl) (by rfl) (by decide +kernel) (by rfl) (by rfl) (by omega) (by omega) (by omega) (by omega) rfl (by decide +kernel) ?_
  refine jT_xistore (v := (0, 1)) (LN := [(7, (0, 1)), (6, (0, 0)), (5, (0, 0)), (4, (4, 3)), (3, (4, 2)), (2, (4, 1)), (1, (4, 0)), (0, (6, 0))]) (pcN := 1128) jI_379_1126 rfl rfl rfl rfl ?_
  refine jT_xaload_n (v := (4, 1)) (pcN := 1129) jI_379_1128 rfl rfl rfl ?_
  refine jT_fR [1, 15, 16, 17, 18, 19, 20, 21, 22, 23, 24, 25, 26, 27, 28, 29] 72 (y := 186) (pcN := 1132) (dC := 0) (bc1 := 0) (bc2 := 0) (c1 := 0) (c2 := 0) (as := [(4, 1)]) (asC := [(4, 0)]) (LN := [(7, (0, 1)), (6, (0, 0)), (5, (0, 0)), (4, (4, 3)), (3, (4, 2)), (2, (4, 1)), (1, (4, 0)), (0, (6, 0))]) (stN := []) (hsC := jpA_1633) (v := (0, 0)) (st2 := [(0, 0)]) (jA_186_355 (d := 0)) (by rfl) (by rfl) (by decide +kernel) (by rfl) (by rfl) (by omega) (by omega) (by omega) (by omega) rfl ?_
  refine jT_xiload (v := (0, 0)) (pcN := 1134) jI_379_1132 rfl rfl rfl ?_
  refine jT_xicT (pcN := 1139) jI_379_1134 rfl (by decide +kernel) rfl ?_
  refine jT_xiload (v := (0, 0)) (pcN := 1141) jI_379_1139 rfl rfl rfl ?_
  refine jT_xifF (t := 1163) (pcN := 1144) jI_379_1141 rfl (by decide +kernel) rfl rfl ?_
  refine jT_xaload_n (v := (4, 2)) (pcN := 1145) jI_379_1144 rfl rfl rfl ?_
  refine jT_xiconst (k := 0) (pcN := 1146) jI_379_1145 rfl ?_
  refine jT_lald (x := 1) (a := 2) (j := 0) (fs := []) (X := [1]) jI_379_1146 rfl rfl rfl rfl ?_
  refine jT_eq (LN := [(7, (0, 1)), (6, (0, 0)), (5, (0, 0)), (4, (4, 3)), (3, (4, 2)), (2, (4, 1)), (1, (4, 0)), (0, (6, 0))]) (stN := [(1, 1)]) (hsN := jpA_1754) rfl rfl rfl ?_
  refine jT_xiload (v := (0, 1)) (pcN := 1149) jI_379_1147 rfl rfl rfl ?_
  refine jT_xifF (t := 1156) (pcN := 1152) jI_379_1149 rfl (by decide +kernel) rfl rfl ?_
  refine jT_xlconst (z := 1) (pcN := 1153) jI_379_1152 rfl rfl ?_
  refine jT_xgoto (pcN := 1157) jI_379_1153 rfl ?_
  refine jT_lcmp (a := 1) (b := 1) (z := 0) (by rfl) (by rfl) (by decide +kernel) (by decide +kernel) (by decide) ?_
  refine jT_xifT (pcN := 1163) jI_379_1158 rfl (by decide +kernel) rfl ?_
  refine jT_xgoto (pcN := 3740) jI_379_1163 rfl ?_
  refine jT_xiinc (x := 0) (z := 5) (LN := [(5, (0, 5)), (7, (0, 1)), (6, (0, 0)), (4, (4, 3)), (3, (4, 2)), (2, (4, 1)), (1, (4, 0)), (0, (6, 0))]) (pcN := 3743) jI_379_3740 rfl rfl (by decide) rfl rfl ?_
  refine jT_xgoto (pcN := 28) jI_379_3743 rfl ?_
  refine jT_xiload (v := (0, 5)) (pcN := 30) jI_379_28 rfl rfl rfl ?_
  refine jT_xaload_n (v := (6, 0)) (pcN := 31) jI_379_30 rfl rfl rfl ?_
  refine jT_adv 1 (pcN := 32) (LN := [(5, (0, 5)), (7, (0, 1)), (6, (0, 0)), (4, (4, 3)), (3, (4, 2)), (2, (4, 1)), (1, (4, 0)), (0, (6, 0))]) (stN := [(0, 5), (0, 5)]) (hsN := jpA_1754) (c1 := 0) (s1 := 0) (c2 := 0) (s2 := 0) (by exact rfl) ?_ (by omega) (by omega)
  refine jT_xiconst (k := 5) (pcN := 33) jI_379_32 rfl ?_
  refine jT_xisub (x := 5) (y := 5) (z := 0) (pcN := 34) jI_379_33 rfl (by decide) rfl ?_
  refine jT_xicT (pcN := 3746) jI_379_34 rfl (by decide +kernel) rfl ?_
  refine jT_xiconst (k := 1) (pcN := 3747) jI_379_3746 rfl ?_
  exact jT_ret rfl (by decide) (by show 58 ≤ 72; decide) (by omega) (by omega) ⟨rfl, rfl⟩
set_option maxRecDepth 100000 in
theorem jL_10_19 {d : Nat} {x0 x1 x2 x3 x4 : Int} (h_x0 : (-2147483648) ≤ x0 ∧ x0 ≤ 2147483647) (h_x1 : 1 ≤ x1 ∧ x1 ≤ 1) (h_x2 : 0 ≤ x2 ∧ x2 ≤ 7) (h_x3 : 1 ≤ x3 ∧ x3 ≤ 2147483647) (h_x4 : (-2147483648) ≤ x4 ∧ x4 ≤ 2147483647) : jT [x0, x1, x2, x3, x4] (d + 8) 379 58 1063 [(5, (0, 0)), (4, (4, 3)), (3, (4, 2)), (2, (4, 1)), (1, (4, 0)), (0, (6, 0))] [] jpA_1763 14 216 (fun k v hsN => k = 0 ∧ v = (0, 1)) := by
  refine jT_xaload_n (v := (4, 0)) (pcN := 1064) jI_379_1063 rfl rfl rfl ?_
  refine jT_xaload_n (v := (6, 0)) (pcN := 1065) jI_379_1064 rfl rfl rfl ?_
  refine jT_xiload (v := (0, 0)) (pcN := 1067) jI_379_1065 rfl rfl rfl ?_
  refine jT_xiconst (k := 1) (pcN := 1068) jI_379_1067 rfl ?_
  refine jT_xiadd (x := 0) (y := 1) (z := 1) (pcN := 1069) jI_379_1068 rfl (by decide) rfl ?_
  refine jT_adv 1 (pcN := 1070) (LN := [(5, (0, 0)), (4, (4, 3)), (3, (4, 2)), (2, (4, 1)), (1, (4, 0)), (0, (6, 0))]) (stN := [(0, x1), (4, 0)]) (hsN := jpA_1763) (c1 := 0) (s1 := 0) (c2 := 14) (s2 := 216) (by exact rfl) ?_ (by omega) (by omega)
  refine jT_eq (LN := [(5, (0, 0)), (4, (4, 3)), (3, (4, 2)), (2, (4, 1)), (1, (4, 0)), (0, (6, 0))]) (stN := [(0, 1), (4, 0)]) (hsN := [jzA_265, jzA_266, (101, [], [0]), jgh, (8, [(4, 30), (4, 31)], []), jgh, jgh, jgh, jgh, jgh, jgh, (101, [], [0, 0, 0, 0, 0, 0]), jgh, jzA_79, jzA_721, (100, [], jS0), (100, [], []), jzA_722, jzA_197, jgh, (130, [], [45, 46, 47, 48, 49, 50]), (101, [], [0, 0, 0, 0, 0, 0]), (100, [], (List.replicate 1792 0)), jgh, jgh, jgh, jgh, jgh, jgh, jgh, jgh, (101, [], [0, 0, 0, 0, 0, 0]), jzA_723, (117, [], [52, 53, 54, 55]), jgh, jgh, jgh, (100, [], (List.replicate 1613 0)), jgh, jgh, jgh, jgh, jgh, jgh, jgh, (100, [], (jenc (jlg 0))), jgh, jgh, jgh, jgh, jgh, (4, [(4, 56), (1, 1)], []), jgh, (7, [(4, 57), (4, (-1)), (4, (-1))], []), jgh, jgh, (101, [], [0, 0, 0, 0, 0, 0]), (114, [], [51])]) (rfl) (by simp only [List.cons.injEq, Prod.mk.injEq, and_true, true_and] <;> ((try unfold jw); (try unfold jwl); omega)) (rfl) ?_
  refine jT_xaload_n (v := (6, 0)) (pcN := 1071) jI_379_1070 rfl rfl rfl ?_
  refine jT_xiload (v := (0, 0)) (pcN := 1073) jI_379_1071 rfl rfl rfl ?_
  refine jT_xiconst (k := 2) (pcN := 1074) jI_379_1073 rfl ?_
  refine jT_xiadd (x := 0) (y := 2) (z := 2) (pcN := 1075) jI_379_1074 rfl (by decide) rfl ?_
  refine jT_adv 1 (pcN := 1076) (LN := [(5, (0, 0)), (4, (4, 3)), (3, (4, 2)), (2, (4, 1)), (1, (4, 0)), (0, (6, 0))]) (stN := [(0, x2), (0, 1), (4, 0)]) (hsN := jpA_1763) (c1 := 0) (s1 := 0) (c2 := 14) (s2 := 216) (by exact rfl) ?_ (by omega) (by omega)
  refine jT_xaload_n (v := (6, 0)) (pcN := 1077) jI_379_1076 rfl rfl rfl ?_
  refine jT_xiload (v := (0, 0)) (pcN := 1079) jI_379_1077 rfl rfl rfl ?_
  refine jT_xiconst (k := 3) (pcN := 1080) jI_379_1079 rfl ?_
  refine jT_xiadd (x := 0) (y := 3) (z := 3) (pcN := 1081) jI_379_1080 rfl (by decide) rfl ?_
  refine jT_adv 1 (pcN := 1082) (LN := [(5, (0, 0)), (4, (4, 3)), (3, (4, 2)), (2, (4, 1)), (1, (4, 0)), (0, (6, 0))]) (stN := [(0, x3), (0, x2), (0, 1), (4, 0)]) (hsN := jpA_1763) (c1 := 0) (s1 := 0) (c2 := 14) (s2 := 216) (by exact rfl) ?_ (by omega) (by omega)
  refine jT_ifF (a := x3) (t := 1089) (by rfl) (by rfl) (by rfl) (jw_idd (by omega) (by omega)) (by simp only [jcP] <;> omega) ?_
  refine jT_xiconst (k := 1) (pcN := 1086) jI_379_1085 rfl ?_
  refine jT_xgoto (pcN := 1090) jI_379_1086 rfl ?_
  refine jT_xaload_n (v := (4, 2)) (pcN := 1091) jI_379_1090 rfl rfl rfl ?_
  refine jT_fB [0, 2, 4, 5, 6, 7, 8, 9, 10, 11, 12, 13, 14, 30, 31, 32, 33, 34, 35, 36, 51, 52, 53, 54, 55, 56, 57] 58 (y := 336) (pcN := 1094) (dC := 7) (bc1 := 7) (bc2 := 23) (c1 := 7) (c2 := 193) (as := [(4, 0), (0, 1), (0, x2), (0, 1), (4, 2)]) (asC := [(4, 0), (0, 1), (0, x2), (0, 1), (4, 1)]) (LN := [(5, (0, 0)), (4, (4, 3)), (3, (4, 2)), (2, (4, 1)), (1, (4, 0)), (0, (6, 0))]) (stN := []) (hsC := jpA_1643) (hsD := jpA_1642) (v := (0, 0)) (st2 := [(0, 0)]) (hs2 := jpA_1764) (jA_336_360 (d := 0) (by omega)) (by rfl) (by rfl) (by decide +kernel) (by rfl) (by rfl) (by omega) (by omega) (by omega) (by omega) rfl (by decide +kernel) ?_
  refine jT_xistore (v := (0, 0)) (LN := [(6, (0, 0)), (5, (0, 0)), (4, (4, 3)), (3, (4, 2)), (2, (4, 1)), (1, (4, 0)), (0, (6, 0))]) (pcN := 1096) jI_379_1094 rfl rfl rfl rfl ?_
  refine jT_xaload_n (v := (4, 1)) (pcN := 1097) jI_379_1096 rfl rfl rfl ?_
  refine jT_xaload_n (v := (6, 0)) (pcN := 1098) jI_379_1097 rfl rfl rfl ?_
  refine jT_xiload (v := (0, 0)) (pcN := 1100) jI_379_1098 rfl rfl rfl ?_
  refine jT_xiconst (k := 1) (pcN := 1101) jI_379_1100 rfl ?_
  refine jT_xiadd (x := 0) (y := 1) (z := 1) (pcN := 1102) jI_379_1101 rfl (by decide) rfl ?_
  refine jT_adv 1 (pcN := 1103) (LN := [(6, (0, 0)), (5, (0, 0)), (4, (4, 3)), (3, (4, 2)), (2, (4, 1)), (1, (4, 0)), (0, (6, 0))]) (stN := [(0, x1), (4, 1)]) (hsN := jpA_1764) (c1 := 0) (s1 := 0) (c2 := 7) (s2 := 193) (by exact rfl) ?_ (by omega) (by omega)
  refine jT_eq (LN := [(6, (0, 0)), (5, (0, 0)), (4, (4, 3)), (3, (4, 2)), (2, (4, 1)), (1, (4, 0)), (0, (6, 0))]) (stN := [(0, 1), (4, 1)]) (hsN := [jzA_1750, jzA_266, (101, [], [1]), jgh, (8, [(4, 30), (4, 31)], []), jgh, jgh, jgh, jgh, jgh, jgh, (101, [], [0, 0, 0, 0, 0, 0]), jgh, jzA_327, jzA_721, (100, [], jS0), (100, [], []), jzA_722, jzA_197, jgh, (130, [], [45, 46, 47, 48, 49, 50]), (101, [], [0, 0, 0, 0, 0, 0]), (100, [], (List.replicate 1792 0)), jgh, jgh, jgh, jgh, jgh, jgh, jgh, jgh, (101, [], [0, 0, 0, 0, 0, 0]), jzA_723, (117, [], [52, 53, 54, 55]), jgh, jgh, jgh, (100, [], (List.replicate 1613 0)), jgh, jgh, jgh, jgh, jgh, jgh, jgh, (100, [], (jenc (jlg 0))), jgh, jgh, jgh, jgh, jgh, (4, [(4, 56), (1, 1)], []), jgh, (7, [(4, 57), (4, (-1)), (4, (-1))], []), jgh, jgh, (101, [], [0, 0, 0, 0, 0, 0]), (114, [], [51]), (101, [], [0, 0, 0, 0, 0, 0]), (4, [(4, 58), (1, 1)], []), (114, [], [51, (-1)]), (114, [], [51]), (7, [(4, 61), (4, (-1)), (4, (-1))], []), (117, [], [52, 62, 54, 55]), jzA_1751]) (rfl) (by simp only [List.cons.injEq, Prod.mk.injEq, and_true, true_and] <;> ((try unfold jw); (try unfold jwl); omega)) (rfl) ?_
  refine jT_xaload_n (v := (6, 0)) (pcN := 1104) jI_379_1103 rfl rfl rfl ?_
  refine jT_xiload (v := (0, 0)) (pcN := 1106) jI_379_1104 rfl rfl rfl ?_
  refine jT_xiconst (k := 2) (pcN := 1107) jI_379_1106 rfl ?_
  refine jT_xiadd (x := 0) (y := 2) (z := 2) (pcN := 1108) jI_379_1107 rfl (by decide) rfl ?_
  refine jT_adv 1 (pcN := 1109) (LN := [(6, (0, 0)), (5, (0, 0)), (4, (4, 3)), (3, (4, 2)), (2, (4, 1)), (1, (4, 0)), (0, (6, 0))]) (stN := [(0, x2), (0, 1), (4, 1)]) (hsN := jpA_1764) (c1 := 0) (s1 := 0) (c2 := 7) (s2 := 193) (by exact rfl) ?_ (by omega) (by omega)
  refine jT_xaload_n (v := (6, 0)) (pcN := 1110) jI_379_1109 rfl rfl rfl ?_
  refine jT_xiload (v := (0, 0)) (pcN := 1112) jI_379_1110 rfl rfl rfl ?_
  refine jT_xiconst (k := 3) (pcN := 1113) jI_379_1112 rfl ?_
  refine jT_xiadd (x := 0) (y := 3) (z := 3) (pcN := 1114) jI_379_1113 rfl (by decide) rfl ?_
  refine jT_adv 1 (pcN := 1115) (LN := [(6, (0, 0)), (5, (0, 0)), (4, (4, 3)), (3, (4, 2)), (2, (4, 1)), (1, (4, 0)), (0, (6, 0))]) (stN := [(0, x3), (0, x2), (0, 1), (4, 1)]) (hsN := jpA_1764) (c1 := 0) (s1 := 0) (c2 := 7) (s2 := 193) (by exact rfl) ?_ (by omega) (by omega)
  refine jT_ifF (a := x3) (t := 1122) (by rfl) (by rfl) (by rfl) (jw_idd (by omega) (by omega)) (by simp only [jcP] <;> omega) ?_
  refine jT_xiconst (k := 1) (pcN := 1119) jI_379_1118 rfl ?_
  refine jT_xgoto (pcN := 1123) jI_379_1119 rfl ?_
  refine jT_fB [1, 15, 16, 17, 18, 19, 20, 21, 22, 23, 24, 25, 26, 27, 28, 29, 37, 38, 39, 40, 41, 42, 43, 44, 45, 46, 47, 48, 49, 50] 65 (y := 243) (pcN := 1126) (dC := 7) (bc1 := 7) (bc2 := 193) (c1 := 0) (c2 := 0) (as := [(4, 1), (0, 1), (0, x2), (0, 1)]) (asC := [(4, 0), (0, 1), (0, x2), (0, 1)]) (LN := [(6, (0, 0)), (5, (0, 0)), (4, (4, 3)), (3, (4, 2)), (2, (4, 1)), (1, (4, 0)), (0, (6, 0))]) (stN := []) (hsC := jpA_1632) (hsD := jpA_1647) (v := (0, 1)) (st2 := [(0, 1)]) (hs2 := jpA_1765) (jA_243_370 (d := 0) (by omega)) (by rfl) (by rfl) (by decide +kernel) (by rfl) (by rfl) (by omega) (by omega) (by omega) (by omega) rfl (by decide +kernel) ?_
  refine jT_xistore (v := (0, 1)) (LN := [(7, (0, 1)), (6, (0, 0)), (5, (0, 0)), (4, (4, 3)), (3, (4, 2)), (2, (4, 1)), (1, (4, 0)), (0, (6, 0))]) (pcN := 1128) jI_379_1126 rfl rfl rfl rfl ?_
  refine jT_xaload_n (v := (4, 1)) (pcN := 1129) jI_379_1128 rfl rfl rfl ?_
  refine jT_fR [1, 15, 16, 17, 18, 19, 20, 21, 22, 23, 24, 25, 26, 27, 28, 29] 72 (y := 186) (pcN := 1132) (dC := 0) (bc1 := 0) (bc2 := 0) (c1 := 0) (c2 := 0) (as := [(4, 1)]) (asC := [(4, 0)]) (LN := [(7, (0, 1)), (6, (0, 0)), (5, (0, 0)), (4, (4, 3)), (3, (4, 2)), (2, (4, 1)), (1, (4, 0)), (0, (6, 0))]) (stN := []) (hsC := jpA_1633) (v := (0, 0)) (st2 := [(0, 0)]) (jA_186_355 (d := 0)) (by rfl) (by rfl) (by decide +kernel) (by rfl) (by rfl) (by omega) (by omega) (by omega) (by omega) rfl ?_
  refine jT_xiload (v := (0, 0)) (pcN := 1134) jI_379_1132 rfl rfl rfl ?_
  refine jT_xicT (pcN := 1139) jI_379_1134 rfl (by decide +kernel) rfl ?_
  refine jT_xiload (v := (0, 0)) (pcN := 1141) jI_379_1139 rfl rfl rfl ?_
  refine jT_xifF (t := 1163) (pcN := 1144) jI_379_1141 rfl (by decide +kernel) rfl rfl ?_
  refine jT_xaload_n (v := (4, 2)) (pcN := 1145) jI_379_1144 rfl rfl rfl ?_
  refine jT_xiconst (k := 0) (pcN := 1146) jI_379_1145 rfl ?_
  refine jT_lald (x := 1) (a := 2) (j := 0) (fs := []) (X := [1]) jI_379_1146 rfl rfl rfl rfl ?_
  refine jT_eq (LN := [(7, (0, 1)), (6, (0, 0)), (5, (0, 0)), (4, (4, 3)), (3, (4, 2)), (2, (4, 1)), (1, (4, 0)), (0, (6, 0))]) (stN := [(1, 1)]) (hsN := jpA_1765) rfl rfl rfl ?_
  refine jT_xiload (v := (0, 1)) (pcN := 1149) jI_379_1147 rfl rfl rfl ?_
  refine jT_xifF (t := 1156) (pcN := 1152) jI_379_1149 rfl (by decide +kernel) rfl rfl ?_
  refine jT_xlconst (z := 1) (pcN := 1153) jI_379_1152 rfl rfl ?_
  refine jT_xgoto (pcN := 1157) jI_379_1153 rfl ?_
  refine jT_lcmp (a := 1) (b := 1) (z := 0) (by rfl) (by rfl) (by decide +kernel) (by decide +kernel) (by decide) ?_
  refine jT_xifT (pcN := 1163) jI_379_1158 rfl (by decide +kernel) rfl ?_
  refine jT_xgoto (pcN := 3740) jI_379_1163 rfl ?_
  refine jT_xiinc (x := 0) (z := 5) (LN := [(5, (0, 5)), (7, (0, 1)), (6, (0, 0)), (4, (4, 3)), (3, (4, 2)), (2, (4, 1)), (1, (4, 0)), (0, (6, 0))]) (pcN := 3743) jI_379_3740 rfl rfl (by decide) rfl rfl ?_
  refine jT_xgoto (pcN := 28) jI_379_3743 rfl ?_
  refine jT_xiload (v := (0, 5)) (pcN := 30) jI_379_28 rfl rfl rfl ?_
  refine jT_xaload_n (v := (6, 0)) (pcN := 31) jI_379_30 rfl rfl rfl ?_
  refine jT_adv 1 (pcN := 32) (LN := [(5, (0, 5)), (7, (0, 1)), (6, (0, 0)), (4, (4, 3)), (3, (4, 2)), (2, (4, 1)), (1, (4, 0)), (0, (6, 0))]) (stN := [(0, 5), (0, 5)]) (hsN := jpA_1765) (c1 := 0) (s1 := 0) (c2 := 0) (s2 := 0) (by exact rfl) ?_ (by omega) (by omega)
  refine jT_xiconst (k := 5) (pcN := 33) jI_379_32 rfl ?_
  refine jT_xisub (x := 5) (y := 5) (z := 0) (pcN := 34) jI_379_33 rfl (by decide) rfl ?_
  refine jT_xicT (pcN := 3746) jI_379_34 rfl (by decide +kernel) rfl ?_
  refine jT_xiconst (k := 1) (pcN := 3747) jI_379_3746 rfl ?_
  exact jT_ret rfl (by decide) (by show 58 ≤ 72; decide) (by omega) (by omega) ⟨rfl, rfl⟩
set_option maxRecDepth 100000 in
theorem jL_10_20 {d : Nat} {x0 x1 x2 x3 x4 : Int} (h_x0 : (-2147483648) ≤ x0 ∧ x0 ≤ 2147483647) (h_x1 : 2 ≤ x1 ∧ x1 ≤ 2) (h_x2 : 0 ≤ x2 ∧ x2 ≤ 7) (h_x3 : 1 ≤ x3 ∧ x3 ≤ 2147483647) (h_x4 : (-2147483648) ≤ x4 ∧ x4 ≤ 2147483647) : jT [x0, x1, x2, x3, x4] (d + 8) 379 58 1063 [(5, (0, 0)), (4, (4, 3)), (3, (4, 2)), (2, (4, 1)), (1, (4, 0)), (0, (6, 0))] [] jpA_1766 14 216 (fun k v hsN => k = 0 ∧ v = (0, 1)) := by
  refine jT_xaload_n (v := (4, 0)) (pcN := 1064) jI_379_1063 rfl rfl rfl ?_
  refine jT_xaload_n (v := (6, 0)) (pcN := 1065) jI_379_1064 rfl rfl rfl ?_
  refine jT_xiload (v := (0, 0)) (pcN := 1067) jI_379_1065 rfl rfl rfl ?_
  refine jT_xiconst (k := 1) (pcN := 1068) jI_379_1067 rfl ?_
  refine jT_xiadd (x := 0) (y := 1) (z := 1) (pcN := 1069) jI_379_1068 rfl (by decide) rfl ?_
  refine jT_adv 1 (pcN := 1070) (LN := [(5, (0, 0)), (4, (4, 3)), (3, (4, 2)), (2, (4, 1)), (1, (4, 0)), (0, (6, 0))]) (stN := [(0, x1), (4, 0)]) (hsN := jpA_1766) (c1 := 0) (s1 := 0) (c2 := 14) (s2 := 216) (by exact rfl) ?_ (by omega) (by omega)
  refine jT_eq (LN := [(5, (0, 0)), (4, (4, 3)), (3, (4, 2)), (2, (4, 1)), (1, (4, 0)), (0, (6, 0))]) (stN := [(0, 2), (4, 0)]) (hsN := [jzA_265, jzA_266, (101, [], [0]), jgh, (8, [(4, 30), (4, 31)], []), jgh, jgh, jgh, jgh, jgh, jgh, (101, [], [0, 0, 0, 0, 0, 0]), jgh, jzA_79, jzA_721, (100, [], jS0), (100, [], []), jzA_722, jzA_197, jgh, (130, [], [45, 46, 47, 48, 49, 50]), (101, [], [0, 0, 0, 0, 0, 0]), (100, [], (List.replicate 1792 0)), jgh, jgh, jgh, jgh, jgh, jgh, jgh, jgh, (101, [], [0, 0, 0, 0, 0, 0]), jzA_723, (117, [], [52, 53, 54, 55]), jgh, jgh, jgh, (100, [], (List.replicate 1613 0)), jgh, jgh, jgh, jgh, jgh, jgh, jgh, (100, [], (jenc (jlg 0))), jgh, jgh, jgh, jgh, jgh, (4, [(4, 56), (1, 1)], []), jgh, jgh, (7, [(4, 57), (4, (-1)), (4, (-1))], []), jgh, (101, [], [0, 0, 0, 0, 0, 0]), (114, [], [51])]) (rfl) (by simp only [List.cons.injEq, Prod.mk.injEq, and_true, true_and] <;> ((try unfold jw); (try unfold jwl); omega)) (rfl) ?_
  refine jT_xaload_n (v := (6, 0)) (pcN := 1071) jI_379_1070 rfl rfl rfl ?_
  refine jT_xiload (v := (0, 0)) (pcN := 1073) jI_379_1071 rfl rfl rfl ?_
  refine jT_xiconst (k := 2) (pcN := 1074) jI_379_1073 rfl ?_
  refine jT_xiadd (x := 0) (y := 2) (z := 2) (pcN := 1075) jI_379_1074 rfl (by decide) rfl ?_
  refine jT_adv 1 (pcN := 1076) (LN := [(5, (0, 0)), (4, (4, 3)), (3, (4, 2)), (2, (4, 1)), (1, (4, 0)), (0, (6, 0))]) (stN := [(0, x2), (0, 2), (4, 0)]) (hsN := jpA_1766) (c1 := 0) (s1 := 0) (c2 := 14) (s2 := 216) (by exact rfl) ?_ (by omega) (by omega)
  refine jT_xaload_n (v := (6, 0)) (pcN := 1077) jI_379_1076 rfl rfl rfl ?_
  refine jT_xiload (v := (0, 0)) (pcN := 1079) jI_379_1077 rfl rfl rfl ?_
  refine jT_xiconst (k := 3) (pcN := 1080) jI_379_1079 rfl ?_
  refine jT_xiadd (x := 0) (y := 3) (z := 3) (pcN := 1081) jI_379_1080 rfl (by decide) rfl ?_
  refine jT_adv 1 (pcN := 1082) (LN := [(5, (0, 0)), (4, (4, 3)), (3, (4, 2)), (2, (4, 1)), (1, (4, 0)), (0, (6, 0))]) (stN := [(0, x3), (0, x2), (0, 2), (4, 0)]) (hsN := jpA_1766) (c1 := 0) (s1 := 0) (c2 := 14) (s2 := 216) (by exact rfl) ?_ (by omega) (by omega)
  refine jT_ifF (a := x3) (t := 1089) (by rfl) (by rfl) (by rfl) (jw_idd (by omega) (by omega)) (by simp only [jcP] <;> omega) ?_
  refine jT_xiconst (k := 1) (pcN := 1086) jI_379_1085 rfl ?_
  refine jT_xgoto (pcN := 1090) jI_379_1086 rfl ?_
  refine jT_xaload_n (v := (4, 2)) (pcN := 1091) jI_379_1090 rfl rfl rfl ?_
  refine jT_fB [0, 2, 4, 5, 6, 7, 8, 9, 10, 11, 12, 13, 14, 30, 31, 32, 33, 34, 35, 36, 51, 52, 53, 54, 55, 56, 57] 58 (y := 336) (pcN := 1094) (dC := 7) (bc1 := 7) (bc2 := 23) (c1 := 7) (c2 := 193) (as := [(4, 0), (0, 2), (0, x2), (0, 1), (4, 2)]) (asC := [(4, 0), (0, 2), (0, x2), (0, 1), (4, 1)]) (LN := [(5, (0, 0)), (4, (4, 3)), (3, (4, 2)), (2, (4, 1)), (1, (4, 0)), (0, (6, 0))]) (stN := []) (hsC := jpA_1657) (hsD := jpA_1656) (v := (0, 0)) (st2 := [(0, 0)]) (hs2 := jpA_1767) (jA_336_376 (d := 0) (by omega)) (by rfl) (by rfl) (by decide +kernel) (by rfl) (by rfl) (by omega) (by omega) (by omega) (by omega) rfl (by decide +kernel) ?_
  refine jT_xistore (v := (0, 0)) (LN := [(6, (0, 0)), (5, (0, 0)), (4, (4, 3)), (3, (4, 2)), (2, (4, 1)), (1, (4, 0)), (0, (6, 0))]) (pcN := 1096) jI_379_1094 rfl rfl rfl rfl ?_
  refine jT_xaload_n (v := (4, 1)) (pcN := 1097) jI_379_1096 rfl rfl rfl ?_
  refine jT_xaload_n (v := (6, 0)) (pcN := 1098) jI_379_1097 rfl rfl rfl ?_
  refine jT_xiload (v := (0, 0)) (pcN := 1100) jI_379_1098 rfl rfl rfl ?_
  refine jT_xiconst (k := 1) (pcN := 1101) jI_379_1100 rfl ?_
  refine jT_xiadd (x := 0) (y := 1) (z := 1) (pcN := 1102) jI_379_1101 rfl (by decide) rfl ?_
  refine jT_adv 1 (pcN := 1103) (LN := [(6, (0, 0)), (5, (0, 0)), (4, (4, 3)), (3, (4, 2)), (2, (4, 1)), (1, (4, 0)), (0, (6, 0))]) (stN := [(0, x1), (4, 1)]) (hsN := jpA_1767) (c1 := 0) (s1 := 0) (c2 := 7) (s2 := 193) (by exact rfl) ?_ (by omega) (by omega)
  refine jT_eq (LN := [(6, (0, 0)), (5, (0, 0)), (4, (4, 3)), (3, (4, 2)), (2, (4, 1)), (1, (4, 0)), (0, (6, 0))]) (stN := [(0, 2), (4, 1)]) (hsN := [jzA_1750, jzA_266, (101, [], [1]), jgh, (8, [(4, 30), (4, 31)], []), jgh, jgh, jgh, jgh, jgh, jgh, (101, [], [0, 0, 0, 0, 0, 0]), jgh, jzA_327, jzA_721, (100, [], jS0), (100, [], []), jzA_722, jzA_197, jgh, (130, [], [45, 46, 47, 48, 49, 50]), (101, [], [0, 0, 0, 0, 0, 0]), (100, [], (List.replicate 1792 0)), jgh, jgh, jgh, jgh, jgh, jgh, jgh, jgh, (101, [], [0, 0, 0, 0, 0, 0]), jzA_723, (117, [], [52, 53, 54, 55]), jgh, jgh, jgh, (100, [], (List.replicate 1613 0)), jgh, jgh, jgh, jgh, jgh, jgh, jgh, (100, [], (jenc (jlg 0))), jgh, jgh, jgh, jgh, jgh, (4, [(4, 56), (1, 1)], []), jgh, jgh, (7, [(4, 57), (4, (-1)), (4, (-1))], []), jgh, (101, [], [0, 0, 0, 0, 0, 0]), (114, [], [51]), (101, [], [0, 0, 0, 0, 0, 0]), (4, [(4, 58), (1, 1)], []), (114, [], [51, (-1)]), (114, [], [51]), (7, [(4, 61), (4, (-1)), (4, (-1))], []), (117, [], [52, 53, 62, 55]), jzA_1751]) (rfl) (by simp only [List.cons.injEq, Prod.mk.injEq, and_true, true_and] <;> ((try unfold jw); (try unfold jwl); omega)) (rfl) ?_
  refine jT_xaload_n (v := (6, 0)) (pcN := 1104) jI_379_1103 rfl rfl rfl ?_
  refine jT_xiload (v := (0, 0)) (pcN := 1106) jI_379_1104 rfl rfl rfl ?_
  refine jT_xiconst (k := 2) (pcN := 1107) jI_379_1106 rfl ?_
  refine jT_xiadd (x := 0) (y := 2) (z := 2) (pcN := 1108) jI_379_1107 rfl (by decide) rfl ?_
  refine jT_adv 1 (pcN := 1109) (LN := [(6, (0, 0)), (5, (0, 0)), (4, (4, 3)), (3, (4, 2)), (2, (4, 1)), (1, (4, 0)), (0, (6, 0))]) (stN := [(0, x2), (0, 2), (4, 1)]) (hsN := jpA_1767) (c1 := 0) (s1 := 0) (c2 := 7) (s2 := 193) (by exact rfl) ?_ (by omega) (by omega)
  refine jT_xaload_n (v := (6, 0)) (pcN := 1110) jI_379_1109 rfl rfl rfl ?_
  refine jT_xiload (v := (0, 0)) (pcN := 1112) jI_379_1110 rfl rfl rfl ?_
  refine jT_xiconst (k := 3) (pcN := 1113) jI_379_1112 rfl ?_
  refine jT_xiadd (x := 0) (y := 3) (z := 3) (pcN := 1114) jI_379_1113 rfl (by decide) rfl ?_
  refine jT_adv 1 (pcN := 1115) (LN := [(6, (0, 0)), (5, (0, 0)), (4, (4, 3)), (3, (4, 2)), (2, (4, 1)), (1, (4, 0)), (0, (6, 0))]) (stN := [(0, x3), (0, x2), (0, 2), (4, 1)]) (hsN := jpA_1767) (c1 := 0) (s1 := 0) (c2 := 7) (s2 := 193) (by exact rfl) ?_ (by omega) (by omega)
  refine jT_ifF (a := x3) (t := 1122) (by rfl) (by rfl) (by rfl) (jw_idd (by omega) (by omega)) (by simp only [jcP] <;> omega) ?_
  refine jT_xiconst (k := 1) (pcN := 1119) jI_379_1118 rfl ?_
  refine jT_xgoto (pcN := 1123) jI_379_1119 rfl ?_
  refine jT_fB [1, 15, 16, 17, 18, 19, 20, 21, 22, 23, 24, 25, 26, 27, 28, 29, 37, 38, 39, 40, 41, 42, 43, 44, 45, 46, 47, 48, 49, 50] 65 (y := 243) (pcN := 1126) (dC := 7) (bc1 := 7) (bc2 := 193) (c1 := 0) (c2 := 0) (as := [(4, 1), (0, 2), (0, x2), (0, 1)]) (asC := [(4, 0), (0, 2), (0, x2), (0, 1)]) (LN := [(6, (0, 0)), (5, (0, 0)), (4, (4, 3)), (3, (4, 2)), (2, (4, 1)), (1, (4, 0)), (0, (6, 0))]) (stN := []) (hsC := jpA_1632) (hsD := jpA_1661) (v := (0, 1)) (st2 := [(0, 1)]) (hs2 := jpA_1768) (jA_243_386 (d := 0) (by omega)) (by rfl) (by rfl) (by decide +kernel) (by rfl) (by rfl) (by omega) (by omega) (by omega) (by omega) rfl (by decide +kernel) ?_
  refine jT_xistore (v := (0, 1)) (LN := [(7, (0, 1)), (6, (0, 0)), (5, (0, 0)), (4, (4, 3)), (3, (4, 2)), (2, (4, 1)), (1, (4, 0)), (0, (6, 0))]) (pcN := 1128) jI_379_1126 rfl rfl rfl rfl ?_
  refine jT_xaload_n (v := (4, 1)) (pcN := 1129) jI_379_1128 rfl rfl rfl ?_
  refine jT_fR [1, 15, 16, 17, 18, 19, 20, 21, 22, 23, 24, 25, 26, 27, 28, 29] 72 (y := 186) (pcN := 1132) (dC := 0) (bc1 := 0) (bc2 := 0) (c1 := 0) (c2 := 0) (as := [(4, 1)]) (asC := [(4, 0)]) (LN := [(7, (0, 1)), (6, (0, 0)), (5, (0, 0)), (4, (4, 3)), (3, (4, 2)), (2, (4, 1)), (1, (4, 0)), (0, (6, 0))]) (stN := []) (hsC := jpA_1633) (v := (0, 0)) (st2 := [(0, 0)]) (jA_186_355 (d := 0)) (by rfl) (by rfl) (by decide +kernel) (by rfl) (by rfl) (by omega) (by omega) (by omega) (by omega) rfl ?_
  refine jT_xiload (v := (0, 0)) (pcN := 1134) jI_379_1132 rfl rfl rfl ?_
  refine jT_xicT (pcN := 1139) jI_379_1134 rfl (by decide +kernel) rfl ?_
  refine jT_xiload (v := (0, 0)) (pcN := 1141) jI_379_1139 rfl rfl rfl ?_
  refine jT_xifF (t := 1163) (pcN := 1144) jI_379_1141 rfl (by decide +kernel) rfl rfl ?_
  refine jT_xaload_n (v := (4, 2)) (pcN := 1145) jI_379_1144 rfl rfl rfl ?_
  refine jT_xiconst (k := 0) (pcN := 1146) jI_379_1145 rfl ?_
  refine jT_lald (x := 1) (a := 2) (j := 0) (fs := []) (X := [1]) jI_379_1146 rfl rfl rfl rfl ?_
  refine jT_eq (LN := [(7, (0, 1)), (6, (0, 0)), (5, (0, 0)), (4, (4, 3)), (3, (4, 2)), (2, (4, 1)), (1, (4, 0)), (0, (6, 0))]) (stN := [(1, 1)]) (hsN := jpA_1768) rfl rfl rfl ?_
  refine jT_xiload (v := (0, 1)) (pcN := 1149) jI_379_1147 rfl rfl rfl ?_
  refine jT_xifF (t := 1156) (pcN := 1152) jI_379_1149 rfl (by decide +kernel) rfl rfl ?_
  refine jT_xlconst (z := 1) (pcN := 1153) jI_379_1152 rfl rfl ?_
  refine jT_xgoto (pcN := 1157) jI_379_1153 rfl ?_
  refine jT_lcmp (a := 1) (b := 1) (z := 0) (by rfl) (by rfl) (by decide +kernel) (by decide +kernel) (by decide) ?_
  refine jT_xifT (pcN := 1163) jI_379_1158 rfl (by decide +kernel) rfl ?_
  refine jT_xgoto (pcN := 3740) jI_379_1163 rfl ?_
  refine jT_xiinc (x := 0) (z := 5) (LN := [(5, (0, 5)), (7, (0, 1)), (6, (0, 0)), (4, (4, 3)), (3, (4, 2)), (2, (4, 1)), (1, (4, 0)), (0, (6, 0))]) (pcN := 3743) jI_379_3740 rfl rfl (by decide) rfl rfl ?_
  refine jT_xgoto (pcN := 28) jI_379_3743 rfl ?_
  refine jT_xiload (v := (0, 5)) (pcN := 30) jI_379_28 rfl rfl rfl ?_
  refine jT_xaload_n (v := (6, 0)) (pcN := 31) jI_379_30 rfl rfl rfl ?_
  refine jT_adv 1 (pcN := 32) (LN := [(5, (0, 5)), (7, (0, 1)), (6, (0, 0)), (4, (4, 3)), (3, (4, 2)), (2, (4, 1)), (1, (4, 0)), (0, (6, 0))]) (stN := [(0, 5), (0, 5)]) (hsN := jpA_1768) (c1 := 0) (s1 := 0) (c2 := 0) (s2 := 0) (by exact rfl) ?_ (by omega) (by omega)
  refine jT_xiconst (k := 5) (pcN := 33) jI_379_32 rfl ?_
  refine jT_xisub (x := 5) (y := 5) (z := 0) (pcN := 34) jI_379_33 rfl (by decide) rfl ?_
  refine jT_xicT (pcN := 3746) jI_379_34 rfl (by decide +kernel) rfl ?_
  refine jT_xiconst (k := 1) (pcN := 3747) jI_379_3746 rfl ?_
  exact jT_ret rfl (by decide) (by show 58 ≤ 72; decide) (by omega) (by omega) ⟨rfl, rfl⟩
set_option maxRecDepth 100000 in
theorem jL_10_21 {d : Nat} {x0 x1 x2 x3 x4 : Int} (h_x0 : (-2147483648) ≤ x0 ∧ x0 ≤ 2147483647) (h_x1 : 3 ≤ x1 ∧ x1 ≤ 3) (h_x2 : 0 ≤ x2 ∧ x2 ≤ 7) (h_x3 : 1 ≤ x3 ∧ x3 ≤ 2147483647) (h_x4 : (-2147483648) ≤ x4 ∧ x4 ≤ 2147483647) : jT [x0, x1, x2, x3, x4] (d + 8) 379 58 1063 [(5, (0, 0)), (4, (4, 3)), (3, (4, 2)), (2, (4, 1)), (1, (4, 0)), (0, (6, 0))] [] jpA_1769 14 216 (fun k v hsN => k = 0 ∧ v = (0, 1)) := by
  refine jT_xaload_n (v := (4, 0)) (pcN := 1064) jI_379_1063 rfl rfl rfl ?_
  refine jT_xaload_n (v := (6, 0)) (pcN := 1065) jI_379_1064 rfl rfl rfl ?_
  refine jT_xiload (v := (0, 0)) (pcN := 1067) jI_379_1065 rfl rfl rfl ?_
  refine jT_xiconst (k := 1) (pcN := 1068) jI_379_1067 rfl ?_
  refine jT_xiadd (x := 0) (y := 1) (z := 1) (pcN := 1069) jI_379_1068 rfl (by decide) rfl ?_
  refine jT_adv 1 (pcN := 1070) (LN := [(5, (0, 0)), (4, (4, 3)), (3, (4, 2)), (2, (4, 1)), (1, (4, 0)), (0, (6, 0))]) (stN := [(0, x1), (4, 0)]) (hsN := jpA_1769) (c1 := 0) (s1 := 0) (c2 := 14) (s2 := 216) (by exact rfl) ?_ (by omega) (by omega)
  refine jT_eq (LN := [(5, (0, 0)), (4, (4, 3)), (3, (4, 2)), (2, (4, 1)), (1, (4, 0)), (0, (6, 0))]) (stN := [(0, 3), (4, 0)]) (hsN := [jzA_265, jzA_266, (101, [], [0]), jgh, (8, [(4, 30), (4, 31)], []), jgh, jgh, jgh, jgh, jgh, jgh, (101, [], [0, 0, 0, 0, 0, 0]), jgh, jzA_79, jzA_721, (100, [], jS0), (100, [], []), jzA_722, jzA_197, jgh, (130, [], [45, 46, 47, 48, 49, 50]), (101, [], [0, 0, 0, 0, 0, 0]), (100, [], (List.replicate 1792 0)), jgh, jgh, jgh, jgh, jgh, jgh, jgh, jgh, (101, [], [0, 0, 0, 0, 0, 0]), jzA_723, (117, [], [52, 53, 54, 55]), jgh, jgh, jgh, (100, [], (List.replicate 1613 0)), jgh, jgh, jgh, jgh, jgh, jgh, jgh, (100, [], (jenc (jlg 0))), jgh, jgh, jgh, jgh, jgh, (4, [(4, 56), (1, 1)], []), jgh, jgh, jgh, (7, [(4, 57), (4, (-1)), (4, (-1))], []), (101, [], [0, 0, 0, 0, 0, 0]), (114, [], [51])]) (rfl) (by simp only [List.cons.injEq, Prod.mk.injEq, and_true, true_and] <;> ((try unfold jw); (try unfold jwl); omega)) (rfl) ?_
  refine jT_xaload_n (v := (6, 0)) (pcN := 1071) jI_379_1070 rfl rfl rfl ?_
  refine jT_xiload (v := (0, 0)) (pcN := 1073) jI_379_1071 rfl rfl rfl ?_
  refine jT_xiconst (k := 2) (pcN := 1074) jI_379_1073 rfl ?_
  refine jT_xiadd (x := 0) (y := 2) (z := 2) (pcN := 1075) jI_379_1074 rfl (by decide) rfl ?_
  refine jT_adv 1 (pcN := 1076) (LN := [(5, (0, 0)), (4, (4, 3)), (3, (4, 2)), (2, (4, 1)), (1, (4, 0)), (0, (6, 0))]) (stN := [(0, x2), (0, 3), (4, 0)]) (hsN := jpA_1769) (c1 := 0) (s1 := 0) (c2 := 14) (s2 := 216) (by exact rfl) ?_ (by omega) (by omega)
  refine jT_xaload_n (v := (6, 0)) (pcN := 1077) jI_379_1076 rfl rfl rfl ?_
  refine jT_xiload (v := (0, 0)) (pcN := 1079) jI_379_1077 rfl rfl rfl ?_
  refine jT_xiconst (k := 3) (pcN := 1080) jI_379_1079 rfl ?_
  refine jT_xiadd (x := 0) (y := 3) (z := 3) (pcN := 1081) jI_379_1080 rfl (by decide) rfl ?_
  refine jT_adv 1 (pcN := 1082) (LN := [(5, (0, 0)), (4, (4, 3)), (3, (4, 2)), (2, (4, 1)), (1, (4, 0)), (0, (6, 0))]) (stN := [(0, x3), (0, x2), (0, 3), (4, 0)]) (hsN := jpA_1769) (c1 := 0) (s1 := 0) (c2 := 14) (s2 := 216) (by exact rfl) ?_ (by omega) (by omega)
  refine jT_ifF (a := x3) (t := 1089) (by rfl) (by rfl) (by rfl) (jw_idd (by omega) (by omega)) (by simp only [jcP] <;> omega) ?_
  refine jT_xiconst (k := 1) (pcN := 1086) jI_379_1085 rfl ?_
  refine jT_xgoto (pcN := 1090) jI_379_1086 rfl ?_
  refine jT_xaload_n (v := (4, 2)) (pcN := 1091) jI_379_1090 rfl rfl rfl ?_
  refine jT_fB [0, 2, 4, 5, 6, 7, 8, 9, 10, 11, 12, 13, 14, 30, 31, 32, 33, 34, 35, 36, 51, 52, 53, 54, 55, 56, 57] 58 (y := 336) (pcN := 1094) (dC := 7) (bc1 := 7) (bc2 := 23) (c1 := 7) (c2 := 193) (as := [(4, 0), (0, 3), (0, x2), (0, 1), (4, 2)]) (asC := [(4, 0), (0, 3), (0, x2), (0, 1), (4, 1)]) (LN := [(5, (0, 0)), (4, (4, 3)), (3, (4, 2)), (2, (4, 1)), (1, (4, 0)), (0, (6, 0))]) (stN := []) (hsC := jpA_1671) (hsD := jpA_1670) (v := (0, 0)) (st2 := [(0, 0)]) (hs2 := jpA_1770) (jA_336_391 (d := 0) (by omega)) (by rfl) (by rfl) (by decide +kernel) (by rfl) (by rfl) (by omega) (by omega) (by omega) (by omega) rfl (by decide +kernel) ?_
  refine jT_xistore (v := (0, 0)) (LN := [(6, (0, 0)), (5, (0, 0)), (4, (4, 3)), (3, (4, 2)), (2, (4, 1)), (1, (4, 0)), (0, (6, 0))]) (pcN := 1096) jI_379_1094 rfl rfl rfl rfl ?_
  refine jT_xaload_n (v := (4, 1)) (pcN := 1097) jI_379_1096 rfl rfl rfl ?_
  refine jT_xaload_n (v := (6, 0)) (pcN := 1098) jI_379_1097 rfl rfl rfl ?_
  refine jT_xiload (v := (0, 0)) (pcN := 1100) jI_379_1098 rfl rfl rfl ?_
  refine jT_xiconst (k := 1) (pcN := 1101) jI_379_1100 rfl ?_
  refine jT_xiadd (x := 0) (y := 1) (z := 1) (pcN := 1102) jI_379_1101 rfl (by decide) rfl ?_
  refine jT_adv 1 (pcN := 1103) (LN := [(6, (0, 0)), (5, (0, 0)), (4, (4, 3)), (3, (4, 2)), (2, (4, 1)), (1, (4, 0)), (0, (6, 0))]) (stN := [(0, x1), (4, 1)]) (hsN := jpA_1770) (c1 := 0) (s1 := 0) (c2 := 7) (s2 := 193) (by exact rfl) ?_ (by omega) (by omega)
  refine jT_eq (LN := [(6, (0, 0)), (5, (0, 0)), (4, (4, 3)), (3, (4, 2)), (2, (4, 1)), (1, (4, 0)), (0, (6, 0))]) (stN := [(0, 3), (4, 1)]) (hsN := [jzA_1750, jzA_266, (101, [], [1]), jgh, (8, [(4, 30), (4, 31)], []), jgh, jgh, jgh, jgh, jgh, jgh, (101, [], [0, 0, 0, 0, 0, 0]), jgh, jzA_327, jzA_721, (100, [], jS0), (100, [], []), jzA_722, jzA_197, jgh, (130, [], [45, 46, 47, 48, 49, 50]), (101, [], [0, 0, 0, 0, 0, 0]), (100, [], (List.replicate 1792 0)), jgh, jgh, jgh, jgh, jgh, jgh, jgh, jgh, (101, [], [0, 0, 0, 0, 0, 0]), jzA_723, (117, [], [52, 53, 54, 55]), jgh, jgh, jgh, (100, [], (List.replicate 1613 0)), jgh, jgh, jgh, jgh, jgh, jgh, jgh, (100, [], (jenc (jlg 0))), jgh, jgh, jgh, jgh, jgh, (4, [(4, 56), (1, 1)], []), jgh, jgh, jgh, (7, [(4, 57), (4, (-1)), (4, (-1))], []), (101, [], [0, 0, 0, 0, 0, 0]), (114, [], [51]), (101, [], [0, 0, 0, 0, 0, 0]), (4, [(4, 58), (1, 1)], []), (114, [], [51, (-1)]), (114, [], [51]), (7, [(4, 61), (4, (-1)), (4, (-1))], []), (117, [], [52, 53, 54, 62]), jzA_1751]) (rfl) (by simp only [List.cons.injEq, Prod.mk.injEq, and_true, true_and] <;> ((try unfold jw); (try unfold jwl); omega)) (rfl) ?_
  refine jT_xaload_n (v := (6, 0)) (pcN := 1104) jI_379_1103 rfl rfl rfl ?_
  refine jT_xiload (v := (0, 0)) (pcN := 1106) jI_379_1104 rfl rfl rfl ?_
  refine jT_xiconst (k := 2) (pcN := 1107) jI_379_1106 rfl ?_
  refine jT_xiadd (x := 0) (y := 2) (z := 2) (pcN := 1108) jI_379_1107 rfl (by decide) rfl ?_
  refine jT_adv 1 (pcN := 1109) (LN := [(6, (0, 0)), (5, (0, 0)), (4, (4, 3)), (3, (4, 2)), (2, (4, 1)), (1, (4, 0)), (0, (6, 0))]) (stN := [(0, x2), (0, 3), (4, 1)]) (hsN := jpA_1770) (c1 := 0) (s1 := 0) (c2 := 7) (s2 := 193) (by exact rfl) ?_ (by omega) (by omega)
  refine jT_xaload_n (v := (6, 0)) (pcN := 1110) jI_379_1109 rfl rfl rfl ?_
  refine jT_xiload (v := (0, 0)) (pcN := 1112) jI_379_1110 rfl rfl rfl ?_
  refine jT_xiconst (k := 3) (pcN := 1113) jI_379_1112 rfl ?_
  refine jT_xiadd (x := 0) (y := 3) (z := 3) (pcN := 1114) jI_379_1113 rfl (by decide) rfl ?_
  refine jT_adv 1 (pcN := 1115) (LN := [(6, (0, 0)), (5, (0, 0)), (4, (4, 3)), (3, (4, 2)), (2, (4, 1)), (1, (4, 0)), (0, (6, 0))]) (stN := [(0, x3), (0, x2), (0, 3), (4, 1)]) (hsN := jpA_1770) (c1 := 0) (s1 := 0) (c2 := 7) (s2 := 193) (by exact rfl) ?_ (by omega) (by omega)
  refine jT_ifF (a := x3) (t := 1122) (by rfl) (by rfl) (by rfl) (jw_idd (by omega) (by omega)) (by simp only [jcP] <;> omega) ?_
  refine jT_xiconst (k := 1) (pcN := 1119) jI_379_1118 rfl ?_
  refine jT_xgoto (pcN := 1123) jI_379_1119 rfl ?_
  refine jT_fB [1, 15, 16, 17, 18, 19, 20, 21, 22, 23, 24, 25, 26, 27, 28, 29, 37, 38, 39, 40, 41, 42, 43, 44, 45, 46, 47, 48, 49, 50] 65 (y := 243) (pcN := 1126) (dC := 7) (bc1 := 7) (bc2 := 193) (c1 := 0) (c2 := 0) (as := [(4, 1), (0, 3), (0, x2), (0, 1)]) (asC := [(4, 0), (0, 3), (0, x2), (0, 1)]) (LN := [(6, (0, 0)), (5, (0, 0)), (4, (4, 3)), (3, (4, 2)), (2, (4, 1)), (1, (4, 0)), (0, (6, 0))]) (stN := []) (hsC := jpA_1632) (hsD := jpA_1675) (v := (0, 1)) (st2 := [(0, 1)]) (hs2 := jpA_1771) (jA_243_401 (d := 0) (by omega)) (by rfl) (by rfl) (by decide +kernel) (by rfl) (by rfl) (by omega) (by omega) (by omega) (by omega) rfl (by decide +kernel) ?_
  refine jT_xistore (v := (0, 1)) (LN := [(7, (0, 1)), (6, (0, 0)), (5, (0, 0)), (4, (4, 3)), (3, (4, 2)), (2, (4, 1)), (1, (4, 0)), (0, (6, 0))]) (pcN := 1128) jI_379_1126 rfl rfl rfl rfl ?_
  refine jT_xaload_n (v := (4, 1)) (pcN := 1129) jI_379_1128 rfl rfl rfl ?_
  refine jT_fR [1, 15, 16, 17, 18, 19, 20, 21, 22, 23, 24, 25, 26, 27, 28, 29] 72 (y := 186) (pcN := 1132) (dC := 0) (bc1 := 0) (bc2 := 0) (c1 := 0) (c2 := 0) (as := [(4, 1)]) (asC := [(4, 0)]) (LN := [(7, (0, 1)), (6, (0, 0)), (5, (0, 0)), (4, (4, 3)), (3, (4, 2)), (2, (4, 1)), (1, (4, 0)), (0, (6, 0))]) (stN := []) (hsC := jpA_1633) (v := (0, 0)) (st2 := [(0, 0)]) (jA_186_355 (d := 0)) (by rfl) (by rfl) (by decide +kernel) (by rfl) (by rfl) (by omega) (by omega) (by omega) (by omega) rfl ?_
  refine jT_xiload (v := (0, 0)) (pcN := 1134) jI_379_1132 rfl rfl rfl ?_
  refine jT_xicT (pcN := 1139) jI_379_1134 rfl (by decide +kernel) rfl ?_
  refine jT_xiload (v := (0, 0)) (pcN := 1141) jI_379_1139 rfl rfl rfl ?_
  refine jT_xifF (t := 1163) (pcN := 1144) jI_379_1141 rfl (by decide +kernel) rfl rfl ?_
  refine jT_xaload_n (v := (4, 2)) (pcN := 1145) jI_379_1144 rfl rfl rfl ?_
  refine jT_xiconst (k := 0) (pcN := 1146) jI_379_1145 rfl ?_
  refine jT_lald (x := 1) (a := 2) (j := 0) (fs := []) (X := [1]) jI_379_1146 rfl rfl rfl rfl ?_
  refine jT_eq (LN := [(7, (0, 1)), (6, (0, 0)), (5, (0, 0)), (4, (4, 3)), (3, (4, 2)), (2, (4, 1)), (1, (4, 0)), (0, (6, 0))]) (stN := [(1, 1)]) (hsN := jpA_1771) rfl rfl rfl ?_
  refine jT_xiload (v := (0, 1)) (pcN := 1149) jI_379_1147 rfl rfl rfl ?_
  refine jT_xifF (t := 1156) (pcN := 1152) jI_379_1149 rfl (by decide +kernel) rfl rfl ?_
  refine jT_xlconst (z := 1) (pcN := 1153) jI_379_1152 rfl rfl ?_
  refine jT_xgoto (pcN := 1157) jI_379_1153 rfl ?_
  refine jT_lcmp (a := 1) (b := 1) (z := 0) (by rfl) (by rfl) (by decide +kernel) (by decide +kernel) (by decide) ?_
  refine jT_xifT (pcN := 1163) jI_379_1158 rfl (by decide +kernel) rfl ?_
  refine jT_xgoto (pcN := 3740) jI_379_1163 rfl ?_
  refine jT_xiinc (x := 0) (z := 5) (LN := [(5, (0, 5)), (7, (0, 1)), (6, (0, 0)), (4, (4, 3)), (3, (4, 2)), (2, (4, 1)), (1, (4, 0)), (0, (6, 0))]) (pcN := 3743) jI_379_3740 rfl rfl (by decide) rfl rfl ?_
  refine jT_xgoto (pcN := 28) jI_379_3743 rfl ?_
  refine jT_xiload (v := (0, 5)) (pcN := 30) jI_379_28 rfl rfl rfl ?_
  refine jT_xaload_n (v := (6, 0)) (pcN := 31) jI_379_30 rfl rfl rfl ?_
  refine jT_adv 1 (pcN := 32) (LN := [(5, (0, 5)), (7, (0, 1)), (6, (0, 0)), (4, (4, 3)), (3, (4, 2)), (2, (4, 1)), (1, (4, 0)), (0, (6, 0))]) (stN := [(0, 5), (0, 5)]) (hsN := jpA_1771) (c1 := 0) (s1 := 0) (c2 := 0) (s2 := 0) (by exact rfl) ?_ (by omega) (by omega)
  refine jT_xiconst (k := 5) (pcN := 33) jI_379_32 rfl ?_
  refine jT_xisub (x := 5) (y := 5) (z := 0) (pcN := 34) jI_379_33 rfl (by decide) rfl ?_
  refine jT_xicT (pcN := 3746) jI_379_34 rfl (by decide +kernel) rfl ?_
  refine jT_xiconst (k := 1) (pcN := 3747) jI_379_3746 rfl ?_
  exact jT_ret rfl (by decide) (by show 58 ≤ 72; decide) (by omega) (by omega) ⟨rfl, rfl⟩
set_option maxRecDepth 100000 in
theorem jL_10_22 {d : Nat} {x0 x1 x2 x3 x4 : Int} (h_x0 : (-2147483648) ≤ x0 ∧ x0 ≤ 2147483647) (h_x1 : 0 ≤ x1 ∧ x1 ≤ 3) (h_x2 : 8 ≤ x2 ∧ x2 ≤ 2147483647) (h_x3 : 1 ≤ x3 ∧ x3 ≤ 2147483647) (h_x4 : (-2147483648) ≤ x4 ∧ x4 ≤ 2147483647) : jT [x0, x1, x2, x3, x4] (d + 3) 379 30 1063 [(5, (0, 0)), (4, (4, 3)), (3, (4, 2)), (2, (4, 1)), (1, (4, 0)), (0, (6, 0))] [] jpA_267 1 6 (fun k v hsN => k = 0 ∧ v = (0, 1)) := by
  refine jT_xaload_n (v := (4, 0)) (pcN := 1064) jI_379_1063 rfl rfl rfl ?_
  refine jT_xaload_n (v := (6, 0)) (pcN := 1065) jI_379_1064 rfl rfl rfl ?_
  refine jT_xiload (v := (0, 0)) (pcN := 1067) jI_379_1065 rfl rfl rfl ?_
  refine jT_xiconst (k := 1) (pcN := 1068) jI_379_1067 rfl ?_
  refine jT_xiadd (x := 0) (y := 1) (z := 1) (pcN := 1069) jI_379_1068 rfl (by decide) rfl ?_
  refine jT_adv 1 (pcN := 1070) (LN := [(5, (0, 0)), (4, (4, 3)), (3, (4, 2)), (2, (4, 1)), (1, (4, 0)), (0, (6, 0))]) (stN := [(0, x1), (4, 0)]) (hsN := jpA_267) (c1 := 0) (s1 := 0) (c2 := 1) (s2 := 6) (by exact rfl) ?_ (by omega) (by omega)
  refine jT_xaload_n (v := (6, 0)) (pcN := 1071) jI_379_1070 rfl rfl rfl ?_
  refine jT_xiload (v := (0, 0)) (pcN := 1073) jI_379_1071 rfl rfl rfl ?_
  refine jT_xiconst (k := 2) (pcN := 1074) jI_379_1073 rfl ?_
  refine jT_xiadd (x := 0) (y := 2) (z := 2) (pcN := 1075) jI_379_1074 rfl (by decide) rfl ?_
  refine jT_adv 1 (pcN := 1076) (LN := [(5, (0, 0)), (4, (4, 3)), (3, (4, 2)), (2, (4, 1)), (1, (4, 0)), (0, (6, 0))]) (stN := [(0, x2), (0, x1), (4, 0)]) (hsN := jpA_267) (c1 := 0) (s1 := 0) (c2 := 1) (s2 := 6) (by exact rfl) ?_ (by omega) (by omega)
  refine jT_xaload_n (v := (6, 0)) (pcN := 1077) jI_379_1076 rfl rfl rfl ?_
  refine jT_xiload (v := (0, 0)) (pcN := 1079) jI_379_1077 rfl rfl rfl ?_
  refine jT_xiconst (k := 3) (pcN := 1080) jI_379_1079 rfl ?_
  refine jT_xiadd (x := 0) (y := 3) (z := 3) (pcN := 1081) jI_379_1080 rfl (by decide) rfl ?_
  refine jT_adv 1 (pcN := 1082) (LN := [(5, (0, 0)), (4, (4, 3)), (3, (4, 2)), (2, (4, 1)), (1, (4, 0)), (0, (6, 0))]) (stN := [(0, x3), (0, x2), (0, x1), (4, 0)]) (hsN := jpA_267) (c1 := 0) (s1 := 0) (c2 := 1) (s2 := 6) (by exact rfl) ?_ (by omega) (by omega)
  refine jT_ifF (a := x3) (t := 1089) (by rfl) (by rfl) (by rfl) (jw_idd (by omega) (by omega)) (by simp only [jcP] <;> omega) ?_
  refine jT_xiconst (k := 1) (pcN := 1086) jI_379_1085 rfl ?_
  refine jT_xgoto (pcN := 1090) jI_379_1086 rfl ?_
  refine jT_xaload_n (v := (4, 2)) (pcN := 1091) jI_379_1090 rfl rfl rfl ?_
  refine jT_fR [0, 2, 4, 5, 6, 7, 8, 9, 10, 11, 12, 13, 14] 30 (y := 336) (pcN := 1094) (dC := 2) (bc1 := 1) (bc2 := 6) (c1 := 0) (c2 := 0) (as := [(4, 0), (0, x1), (0, x2), (0, 1), (4, 2)]) (asC := [(4, 0), (0, x1), (0, x2), (0, 1), (4, 1)]) (LN := [(5, (0, 0)), (4, (4, 3)), (3, (4, 2)), (2, (4, 1)), (1, (4, 0)), (0, (6, 0))]) (stN := []) (hsC := jpA_15) (v := (0, 1)) (st2 := [(0, 1)]) (jA_336_403 (d := 0) (by omega) (by omega)) (by rfl) (by rfl) (by decide +kernel) (by rfl) (by rfl) (by omega) (by omega) (by omega) (by omega) rfl ?_
  refine jT_xistore (v := (0, 1)) (LN := [(6, (0, 1)), (5, (0, 0)), (4, (4, 3)), (3, (4, 2)), (2, (4, 1)), (1, (4, 0)), (0, (6, 0))]) (pcN := 1096) jI_379_1094 rfl rfl rfl rfl ?_
  refine jT_xaload_n (v := (4, 1)) (pcN := 1097) jI_379_1096 rfl rfl rfl ?_
  refine jT_xaload_n (v := (6, 0)) (pcN := 1098) jI_379_1097 rfl rfl rfl ?_
  refine jT_xiload (v := (0, 0)) (pcN := 1100) jI_379_1098 rfl rfl rfl ?_
  refine jT_xiconst (k := 1) (pcN := 1101) jI_379_1100 rfl ?_
  refine jT_xiadd (x := 0) (y := 1) (z := 1) (pcN := 1102) jI_379_1101 rfl (by decide) rfl ?_
  refine jT_adv 1 (pcN := 1103) (LN := [(6, (0, 1)), (5, (0, 0)), (4, (4, 3)), (3, (4, 2)), (2, (4, 1)), (1, (4, 0)), (0, (6, 0))]) (stN := [(0, x1), (4, 1)]) (hsN := jpA_267) (c1 := 0) (s1 := 0) (c2 := 0) (s2 := 0) (by exact rfl) ?_ (by omega) (by omega)
  refine jT_xaload_n (v := (6, 0)) (pcN := 1104) jI_379_1103 rfl rfl rfl ?_
  refine jT_xiload (v := (0, 0)) (pcN := 1106) jI_379_1104 rfl rfl rfl ?_
  refine jT_xiconst (k := 2) (pcN := 1107) jI_379_1106 rfl ?_
  refine jT_xiadd (x := 0) (y := 2) (z := 2) (pcN := 1108) jI_379_1107 rfl (by decide) rfl ?_
  refine jT_adv 1 (pcN := 1109) (LN := [(6, (0, 1)), (5, (0, 0)), (4, (4, 3)), (3, (4, 2)), (2, (4, 1)), (1, (4, 0)), (0, (6, 0))]) (stN := [(0, x2), (0, x1), (4, 1)]) (hsN := jpA_267) (c1 := 0) (s1 := 0) (c2 := 0) (s2 := 0) (by exact rfl) ?_ (by omega) (by omega)
  refine jT_xaload_n (v := (6, 0)) (pcN := 1110) jI_379_1109 rfl rfl rfl ?_
  refine jT_xiload (v := (0, 0)) (pcN := 1112) jI_379_1110 rfl rfl rfl ?_
  refine jT_xiconst (k := 3) (pcN := 1113) jI_379_1112 rfl ?_
  refine jT_xiadd (x := 0) (y := 3) (z := 3) (pcN := 1114) jI_379_1113 rfl (by decide) rfl ?_
  refine jT_adv 1 (pcN := 1115) (LN := [(6, (0, 1)), (5, (0, 0)), (4, (4, 3)), (3, (4, 2)), (2, (4, 1)), (1, (4, 0)), (0, (6, 0))]) (stN := [(0, x3), (0, x2), (0, x1), (4, 1)]) (hsN := jpA_267) (c1 := 0) (s1 := 0) (c2 := 0) (s2 := 0) (by exact rfl) ?_ (by omega) (by omega)
  refine jT_ifF (a := x3) (t := 1122) (by rfl) (by rfl) (by rfl) (jw_idd (by omega) (by omega)) (by simp only [jcP] <;> omega) ?_
  refine jT_xiconst (k := 1) (pcN := 1119) jI_379_1118 rfl ?_
  refine jT_xgoto (pcN := 1123) jI_379_1119 rfl ?_
  refine jT_fB [1, 15, 16, 17, 18, 19, 20, 21, 22, 23, 24, 25, 26, 27, 28, 29] 30 (y := 243) (pcN := 1126) (dC := 2) (bc1 := 0) (bc2 := 0) (c1 := 0) (c2 := 0) (as := [(4, 1), (0, x1), (0, x2), (0, 1)]) (asC := [(4, 0), (0, x1), (0, x2), (0, 1)]) (LN := [(6, (0, 1)), (5, (0, 0)), (4, (4, 3)), (3, (4, 2)), (2, (4, 1)), (1, (4, 0)), (0, (6, 0))]) (stN := []) (hsC := jpA_22) (hsD := jpA_20) (v := (0, 0)) (st2 := [(0, 0)]) (hs2 := jpA_306) (jA_243_404 (d := 0) (by omega) (by omega)) (by rfl) (by rfl) (by decide +kernel) (by rfl) (by rfl) (by omega) (by omega) (by omega) (by omega) rfl (by decide +kernel) ?_
  refine jT_xistore (v := (0, 0)) (LN := [(7, (0, 0)), (6, (0, 1)), (5, (0, 0)), (4, (4, 3)), (3, (4, 2)), (2, (4, 1)), (1, (4, 0)), (0, (6, 0))]) (pcN := 1128) jI_379_1126 rfl rfl rfl rfl ?_
  refine jT_xaload_n (v := (4, 1)) (pcN := 1129) jI_379_1128 rfl rfl rfl ?_
  refine jT_fR [1, 15, 16, 17, 18, 19, 20, 21, 22, 23, 24, 25, 26, 27, 28, 29] 30 (y := 186) (pcN := 1132) (dC := 0) (bc1 := 0) (bc2 := 0) (c1 := 0) (c2 := 0) (as := [(4, 1)]) (asC := [(4, 0)]) (LN := [(7, (0, 0)), (6, (0, 1)), (5, (0, 0)), (4, (4, 3)), (3, (4, 2)), (2, (4, 1)), (1, (4, 0)), (0, (6, 0))]) (stN := []) (hsC := jpA_20) (v := (0, 1)) (st2 := [(0, 1)]) (jA_186_8 (d := 0)) (by rfl) (by rfl) (by decide +kernel) (by rfl) (by rfl) (by omega) (by omega) (by omega) (by omega) rfl ?_
  refine jT_xiload (v := (0, 1)) (pcN := 1134) jI_379_1132 rfl rfl rfl ?_
  refine jT_xicT (pcN := 1139) jI_379_1134 rfl (by decide +kernel) rfl ?_
  refine jT_xiload (v := (0, 1)) (pcN := 1141) jI_379_1139 rfl rfl rfl ?_
  refine jT_xifT (pcN := 1163) jI_379_1141 rfl (by decide +kernel) rfl ?_
  refine jT_xgoto (pcN := 3740) jI_379_1163 rfl ?_
  refine jT_xiinc (x := 0) (z := 5) (LN := [(5, (0, 5)), (7, (0, 0)), (6, (0, 1)), (4, (4, 3)), (3, (4, 2)), (2, (4, 1)), (1, (4, 0)), (0, (6, 0))]) (pcN := 3743) jI_379_3740 rfl rfl (by decide) rfl rfl ?_
  refine jT_xgoto (pcN := 28) jI_379_3743 rfl ?_
  refine jT_xiload (v := (0, 5)) (pcN := 30) jI_379_28 rfl rfl rfl ?_
  refine jT_xaload_n (v := (6, 0)) (pcN := 31) jI_379_30 rfl rfl rfl ?_
  refine jT_adv 1 (pcN := 32) (LN := [(5, (0, 5)), (7, (0, 0)), (6, (0, 1)), (4, (4, 3)), (3, (4, 2)), (2, (4, 1)), (1, (4, 0)), (0, (6, 0))]) (stN := [(0, 5), (0, 5)]) (hsN := jpA_306) (c1 := 0) (s1 := 0) (c2 := 0) (s2 := 0) (by exact rfl) ?_ (by omega) (by omega)
  refine jT_xiconst (k := 5) (pcN := 33) jI_379_32 rfl ?_
  refine jT_xisub (x := 5) (y := 5) (z := 0) (pcN := 34) jI_379_33 rfl (by decide) rfl ?_
  refine jT_xicT (pcN := 3746) jI_379_34 rfl (by decide +kernel) rfl ?_
  refine jT_xiconst (k := 1) (pcN := 3747) jI_379_3746 rfl ?_
  exact jT_ret rfl (by decide) (by show 30 ≤ 30; decide) (by omega) (by omega) ⟨rfl, rfl⟩
set_option maxRecDepth 100000 in
theorem jL_10_23 {d : Nat} {x0 x1 x2 x3 x4 : Int} (h_x0 : (-2147483648) ≤ x0 ∧ x0 ≤ 2147483647) (h_x1 : 4 ≤ x1 ∧ x1 ≤ 2147483647) (h_x2 : (-2147483648) ≤ x2 ∧ x2 ≤ 2147483647) (h_x3 : 1 ≤ x3 ∧ x3 ≤ 2147483647) (h_x4 : (-2147483648) ≤ x4 ∧ x4 ≤ 2147483647) : jT [x0, x1, x2, x3, x4] (d + 3) 379 30 1063 [(5, (0, 0)), (4, (4, 3)), (3, (4, 2)), (2, (4, 1)), (1, (4, 0)), (0, (6, 0))] [] jpA_267 1 6 (fun k v hsN => k = 0 ∧ v = (0, 1)) := by
  refine jT_xaload_n (v := (4, 0)) (pcN := 1064) jI_379_1063 rfl rfl rfl ?_
  refine jT_xaload_n (v := (6, 0)) (pcN := 1065) jI_379_1064 rfl rfl rfl ?_
  refine jT_xiload (v := (0, 0)) (pcN := 1067) jI_379_1065 rfl rfl rfl ?_
  refine jT_xiconst (k := 1) (pcN := 1068) jI_379_1067 rfl ?_
  refine jT_xiadd (x := 0) (y := 1) (z := 1) (pcN := 1069) jI_379_1068 rfl (by decide) rfl ?_
  refine jT_adv 1 (pcN := 1070) (LN := [(5, (0, 0)), (4, (4, 3)), (3, (4, 2)), (2, (4, 1)), (1, (4, 0)), (0, (6, 0))]) (stN := [(0, x1), (4, 0)]) (hsN := jpA_267) (c1 := 0) (s1 := 0) (c2 := 1) (s2 := 6) (by exact rfl) ?_ (by omega) (by omega)
  refine jT_xaload_n (v := (6, 0)) (pcN := 1071) jI_379_1070 rfl rfl rfl ?_
  refine jT_xiload (v := (0, 0)) (pcN := 1073) jI_379_1071 rfl rfl rfl ?_
  refine jT_xiconst (k := 2) (pcN := 1074) jI_379_1073 rfl ?_
  refine jT_xiadd (x := 0) (y := 2) (z := 2) (pcN := 1075) jI_379_1074 rfl (by decide) rfl ?_
  refine jT_adv 1 (pcN := 1076) (LN := [(5, (0, 0)), (4, (4, 3)), (3, (4, 2)), (2, (4, 1)), (1, (4, 0)), (0, (6, 0))]) (stN := [(0, x2), (0, x1), (4, 0)]) (hsN := jpA_267) (c1 := 0) (s1 := 0) (c2 := 1) (s2 := 6) (by exact rfl) ?_ (by omega) (by omega)
  refine jT_xaload_n (v := (6, 0)) (pcN := 1077) jI_379_1076 rfl rfl rfl ?_
  refine jT_xiload (v := (0, 0)) (pcN := 1079) jI_379_1077 rfl rfl rfl ?_
  refine jT_xiconst (k := 3) (pcN := 1080) jI_379_1079 rfl ?_
  refine jT_xiadd (x := 0) (y := 3) (z := 3) (pcN := 1081) jI_379_1080 rfl (by decide) rfl ?_
  refine jT_adv 1 (pcN := 1082) (LN := [(5, (0, 0)), (4, (4, 3)), (3, (4, 2)), (2, (4, 1)), (1, (4, 0)), (0, (6, 0))]) (stN := [(0, x3), (0, x2), (0, x1), (4, 0)]) (hsN := jpA_267) (c1 := 0) (s1 := 0) (c2 := 1) (s2 := 6) (by exact rfl) ?_ (by omega) (by omega)
  refine jT_ifF (a := x3) (t := 1089) (by rfl) (by rfl) (by rfl) (jw_idd (by omega) (by omega)) (by simp only [jcP] <;> omega) ?_
  refine jT_xiconst (k := 1) (pcN := 1086) jI_379_1085 rfl ?_
  refine jT_xgoto (pcN := 1090) jI_379_1086 rfl ?_
  refine jT_xaload_n (v := (4, 2)) (pcN := 1091) jI_379_1090 rfl rfl rfl ?_
  refine jT_fR [0, 2, 4, 5, 6, 7, 8, 9, 10, 11, 12, 13, 14] 30 (y := 336) (pcN := 1094) (dC := 2) (bc1 := 1) (bc2 := 6) (c1 := 0) (c2 := 0) (as := [(4, 0), (0, x1), (0, x2), (0, 1), (4, 2)]) (asC := [(4, 0), (0, x1), (0, x2), (0, 1), (4, 1)]) (LN := [(5, (0, 0)), (4, (4, 3)), (3, (4, 2)), (2, (4, 1)), (1, (4, 0)), (0, (6, 0))]) (stN := []) (hsC := jpA_15) (v := (0, 1)) (st2 := [(0, 1)]) (jA_336_407 (d := 0) (by omega) (by omega)) (by rfl) (by rfl) (by decide +kernel) (by rfl) (by rfl) (by omega) (by omega) (by omega) (by omega) rfl ?_
  refine jT_xistore (v := (0, 1)) (LN := [(6, (0, 1)), (5, (0, 0)), (4, (4, 3)), (3, (4, 2)), (2, (4, 1)), (1, (4, 0)), (0, (6, 0))]) (pcN := 1096) jI_379_1094 rfl rfl rfl rfl ?_
  refine jT_xaload_n (v := (4, 1)) (pcN := 1097) jI_379_1096 rfl rfl rfl ?_
  refine jT_xaload_n (v := (6, 0)) (pcN := 1098) jI_379_1097 rfl rfl rfl ?_
  refine jT_xiload (v := (0, 0)) (pcN := 1100) jI_379_1098 rfl rfl rfl ?_
  refine jT_xiconst (k := 1) (pcN := 1101) jI_379_1100 rfl ?_
  refine jT_xiadd (x := 0) (y := 1) (z := 1) (pcN := 1102) jI_379_1101 rfl (by decide) rfl ?_
  refine jT_adv 1 (pcN := 1103) (LN := [(6, (0, 1)), (5, (0, 0)), (4, (4, 3)), (3, (4, 2)), (2, (4, 1)), (1, (4, 0)), (0, (6, 0))]) (stN := [(0, x1), (4, 1)]) (hsN := jpA_267) (c1 := 0) (s1 := 0) (c2 := 0) (s2 := 0) (by exact rfl) ?_ (by omega) (by omega)
  refine jT_xaload_n (v := (6, 0)) (pcN := 1104) jI_379_1103 rfl rfl rfl ?_
  refine jT_xiload (v := (0, 0)) (pcN := 1106) jI_379_1104 rfl rfl rfl ?_
  refine jT_xiconst (k := 2) (pcN := 1107) jI_379_1106 rfl ?_
  refine jT_xiadd (x := 0) (y := 2) (z := 2) (pcN := 1108) jI_379_1107 rfl (by decide) rfl ?_
  refine jT_adv 1 (pcN := 1109) (LN := [(6, (0, 1)), (5, (0, 0)), (4, (4, 3)), (3, (4, 2)), (2, (4, 1)), (1, (4, 0)), (0, (6, 0))]) (stN := [(0, x2), (0, x1), (4, 1)]) (hsN := jpA_267) (c1 := 0) (s1 := 0) (c2 := 0) (s2 := 0) (by exact rfl) ?_ (by omega) (by omega)
  refine jT_xaload_n (v := (6, 0)) (pcN := 1110) jI_379_1109 rfl rfl rfl ?_
  refine jT_xiload (v := (0, 0)) (pcN := 1112) jI_379_1110 rfl rfl rfl ?_
  refine jT_xiconst (k := 3) (pcN := 1113) jI_379_1112 rfl ?_
  refine jT_xiadd (x := 0) (y := 3) (z := 3) (pcN := 1114) jI_379_1113 rfl (by decide) rfl ?_
  refine jT_adv 1 (pcN := 1115) (LN := [(6, (0, 1)), (5, (0, 0)), (4, (4, 3)), (3, (4, 2)), (2, (4, 1)), (1, (4, 0)), (0, (6, 0))]) (stN := [(0, x3), (0, x2), (0, x1), (4, 1)]) (hsN := jpA_267) (c1 := 0) (s1 := 0) (c2 := 0) (s2 := 0) (by exact rfl) ?_ (by omega) (by omega)
  refine jT_ifF (a := x3) (t := 1122) (by rfl) (by rfl) (by rfl) (jw_idd (by omega) (by omega)) (by simp only [jcP] <;> omega) ?_
  refine jT_xiconst (k := 1) (pcN := 1119) jI_379_1118 rfl ?_
  refine jT_xgoto (pcN := 1123) jI_379_1119 rfl ?_
  refine jT_fB [1, 15, 16, 17, 18, 19, 20, 21, 22, 23, 24, 25, 26, 27, 28, 29] 30 (y := 243) (pcN := 1126) (dC := 2) (bc1 := 0) (bc2 := 0) (c1 := 0) (c2 := 0) (as := [(4, 1), (0, x1), (0, x2), (0, 1)]) (asC := [(4, 0), (0, x1), (0, x2), (0, 1)]) (LN := [(6, (0, 1)), (5, (0, 0)), (4, (4, 3)), (3, (4, 2)), (2, (4, 1)), (1, (4, 0)), (0, (6, 0))]) (stN := []) (hsC := jpA_22) (hsD := jpA_20) (v := (0, 0)) (st2 := [(0, 0)]) (hs2 := jpA_306) (jA_243_409 (d := 0) (by omega) (by omega)) (by rfl) (by rfl) (by decide +kernel) (by rfl) (by rfl) (by omega) (by omega) (by omega) (by omega) rfl (by decide +kernel) ?_
  refine jT_xistore (v := (0, 0)) (LN := [(7, (0, 0)), (6, (0, 1)), (5, (0, 0)), (4, (4, 3)), (3, (4, 2)), (2, (4, 1)), (1, (4, 0)), (0, (6, 0))]) (pcN := 1128) jI_379_1126 rfl rfl rfl rfl ?_
  refine jT_xaload_n (v := (4, 1)) (pcN := 1129) jI_379_1128 rfl rfl rfl ?_
  refine jT_fR [1, 15, 16, 17, 18, 19, 20, 21, 22, 23, 24, 25, 26, 27, 28, 29] 30 (y := 186) (pcN := 1132) (dC := 0) (bc1 := 0) (bc2 := 0) (c1 := 0) (c2 := 0) (as := [(4, 1)]) (asC := [(4, 0)]) (LN := [(7, (0, 0)), (6, (0, 1)), (5, (0, 0)), (4, (4, 3)), (3, (4, 2)), (2, (4, 1)), (1, (4, 0)), (0, (6, 0))]) (stN := []) (hsC := jpA_20) (v := (0, 1)) (st2 := [(0, 1)]) (jA_186_8 (d := 0)) (by rfl) (by rfl) (by decide +kernel) (by rfl) (by rfl) (by omega) (by omega) (by omega) (by omega) rfl ?_
  refine jT_xiload (v := (0, 1)) (pcN := 1134) jI_379_1132 rfl rfl rfl ?_
  refine jT_xicT (pcN := 1139) jI_379_1134 rfl (by decide +kernel) rfl ?_
  refine jT_xiload (v := (0, 1)) (pcN := 1141) jI_379_1139 rfl rfl rfl ?_
  refine jT_xifT (pcN := 1163) jI_379_1141 rfl (by decide +kernel) rfl ?_
  refine jT_xgoto (pcN := 3740) jI_379_1163 rfl ?_
  refine jT_xiinc (x := 0) (z := 5) (LN := [(5, (0, 5)), (7, (0, 0)), (6, (0, 1)), (4, (4, 3)), (3, (4, 2)), (2, (4, 1)), (1, (4, 0)), (0, (6, 0))]) (pcN := 3743) jI_379_3740 rfl rfl (by decide) rfl rfl ?_
  refine jT_xgoto (pcN := 28) jI_379_3743 rfl ?_
  refine jT_xiload (v := (0, 5)) (pcN := 30) jI_379_28 rfl rfl rfl ?_
  refine jT_xaload_n (v := (6, 0)) (pcN := 31) jI_379_30 rfl rfl rfl ?_
  refine jT_adv 1 (pcN := 32) (LN := [(5, (0, 5)), (7, (0, 0)), (6, (0, 1)), (4, (4, 3)), (3, (4, 2)), (2, (4, 1)), (1, (4, 0)), (0, (6, 0))]) (stN := [(0, 5), (0, 5)]) (hsN := jpA_306) (c1 := 0) (s1 := 0) (c2 := 0) (s2 := 0) (by exact rfl) ?_ (by omega) (by omega)
  refine jT_xiconst (k := 5) (pcN := 33) jI_379_32 rfl ?_
  refine jT_xisub (x := 5) (y := 5) (z := 0) (pcN := 34) jI_379_33 rfl (by decide) rfl ?_
  refine jT_xicT (pcN := 3746) jI_379_34 rfl (by decide +kernel) rfl ?_
  refine jT_xiconst (k := 1) (pcN := 3747) jI_379_3746 rfl ?_
  exact jT_ret rfl (by decide) (by show 30 ≤ 30; decide) (by omega) (by omega) ⟨rfl, rfl⟩
