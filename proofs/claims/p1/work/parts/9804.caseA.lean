/-! the law, case by case: 11, 12 -/
theorem jI_129_0 : jmI (jm 129) 0 = (.aload_n 0, 1) := by rfl
theorem jI_129_1 : jmI (jm 129) 1 = (.iload_n 1, 1) := by rfl
theorem jI_129_2 : jmI (jm 129) 2 = (.iconst 4, 1) := by rfl
theorem jA_129_435 {xs : List Int} {d : Nat} {x1 x2 : Int} (h_x1 : (-2147483648) ≤ x1 ∧ x1 ≤ (-1)) (h_x2 : (-2147483648) ≤ x2 ∧ x2 ≤ 2147483647) : jT xs (d + 1) 129 12 0 [(0, (4, 0)), (1, (0, x1)), (2, (0, x2))] [] jpA_6 1 6 (fun k v hsN => k = 1 ∧ v = (0, 0) ∧ hsN = jpA_6 ++ []) := by
  refine jT_xaload_n (v := (4, 0)) (pcN := 1) jI_129_0 rfl rfl rfl ?_
  refine jT_xiload_n (v := (0, x1)) (pcN := 2) jI_129_1 rfl rfl rfl ?_
  refine jT_xiconst (k := 4) (pcN := 3) jI_129_2 rfl ?_
  exact jT_fX [0] 12 (y := 115) (pcN := 6) (dC := 0) (bc1 := 1) (bc2 := 6) (as := [(4, 0), (0, x1), (0, 4)]) (asC := [(4, 0), (0, x1), (0, 4)]) (LN := [(0, (4, 0)), (1, (0, x1)), (2, (0, x2))]) (stN := []) (hsC := [jgh]) (e := 0) (jA_115_310 (d := 0) (by omega)) (by rfl) (by rfl) (by decide +kernel) (by rfl) (by rfl) (by omega) (by omega) (by omega) (by omega) ⟨rfl, ⟨rfl, rfl, rfl⟩⟩
theorem jI_337_0 : jmI (jm 337) 0 = (.aload_n 3, 1) := by rfl
theorem jI_337_1 : jmI (jm 337) 1 = (.iconst 0, 1) := by rfl
theorem jI_337_2 : jmI (jm 337) 2 = (.aload_n 0, 1) := by rfl
theorem jI_337_3 : jmI (jm 337) 3 = (.iload_n 1, 1) := by rfl
theorem jI_337_4 : jmI (jm 337) 4 = (.iload_n 2, 1) := by rfl
theorem jA_337_436 {xs : List Int} {d : Nat} {x1 x2 : Int} (h_x1 : (-2147483648) ≤ x1 ∧ x1 ≤ (-1)) (h_x2 : (-2147483648) ≤ x2 ∧ x2 ≤ 2147483647) : jT xs (d + 2) 337 13 0 [(0, (4, 0)), (1, (0, x1)), (2, (0, x2)), (3, (4, 1))] [] jpA_15 1 6 (fun k v hsN => k = 0 ∧ v = (0, 1) ∧ hsN = jpA_15 ++ []) := by
  refine jT_xaload_n (v := (4, 1)) (pcN := 1) jI_337_0 rfl rfl rfl ?_
  refine jT_xiconst (k := 0) (pcN := 2) jI_337_1 rfl ?_
  refine jT_xaload_n (v := (4, 0)) (pcN := 3) jI_337_2 rfl rfl rfl ?_
  refine jT_xiload_n (v := (0, x1)) (pcN := 4) jI_337_3 rfl rfl rfl ?_
  refine jT_xiload_n (v := (0, x2)) (pcN := 5) jI_337_4 rfl rfl rfl ?_
  exact jT_fX [0, 2, 3, 4, 5, 6, 7, 8, 9, 10, 11, 12] 13 (y := 129) (pcN := 8) (dC := 1) (bc1 := 1) (bc2 := 6) (as := [(4, 0), (0, x1), (0, x2)]) (asC := [(4, 0), (0, x1), (0, x2)]) (LN := [(0, (4, 0)), (1, (0, x1)), (2, (0, x2)), (3, (4, 1))]) (stN := [(0, 0), (4, 1)]) (hsC := jpA_6) (e := 0) (jA_129_435 (d := 0) (by omega) (by omega)) (by rfl) (by rfl) (by decide +kernel) (by rfl) (by rfl) (by omega) (by omega) (by omega) (by omega) (show _ from ⟨rfl, rfl, rfl⟩)
theorem jI_246_0 : jmI (jm 246) 0 = (.aload_n 0, 1) := by rfl
theorem jI_246_1 : jmI (jm 246) 1 = (.iload_n 1, 1) := by rfl
theorem jI_246_8 : jmI (jm 246) 8 = (.ifCond .ne 31, 3) := by rfl
theorem jI_246_39 : jmI (jm 246) 39 = (.iconst 0, 1) := by rfl
theorem jA_246_437 {xs : List Int} {d : Nat} {x1 x2 : Int} (h_x1 : (-2147483648) ≤ x1 ∧ x1 ≤ (-1)) (h_x2 : (-2147483648) ≤ x2 ∧ x2 ≤ 2147483647) : jT xs (d + 2) 246 16 0 [(0, (4, 0)), (1, (0, x1)), (2, (0, x2))] [] jpA_22 0 0 (fun k v hsN => k = 0 ∧ v = (0, 0) ∧ hsN = jpA_20) := by
  refine jT_xaload_n (v := (4, 0)) (pcN := 1) jI_246_0 rfl rfl rfl ?_
  refine jT_xiload_n (v := (0, x1)) (pcN := 2) jI_246_1 rfl rfl rfl ?_
  refine jT_fR [] 16 (y := 238) (pcN := 5) (dC := 1) (bc1 := 0) (bc2 := 0) (c1 := 0) (c2 := 0) (as := [(0, x1)]) (asC := [(0, x1)]) (LN := [(0, (4, 0)), (1, (0, x1)), (2, (0, x2))]) (stN := [(4, 0)]) (hsC := []) (v := (0, 0)) (st2 := [(0, 0), (4, 0)]) (jA_238_313 (d := 0) (by omega)) (by rfl) (by rfl) (by decide +kernel) (by rfl) (by rfl) (by omega) (by omega) (by omega) (by omega) rfl ?_
  refine jT_fB [0, 1, 2, 3, 4, 5, 6, 7, 8, 9, 10, 11, 12, 13, 14, 15] 16 (y := 190) (pcN := 8) (dC := 1) (bc1 := 0) (bc2 := 0) (c1 := 0) (c2 := 0) (as := [(4, 0), (0, 0)]) (asC := [(4, 0), (0, 0)]) (LN := [(0, (4, 0)), (1, (0, x1)), (2, (0, x2))]) (stN := []) (hsC := jpA_22) (hsD := jpA_20) (v := (0, 1)) (st2 := [(0, 1)]) (hs2 := jpA_20) (jA_190_6 (d := 0)) (by rfl) (by rfl) (by decide +kernel) (by rfl) (by rfl) (by omega) (by omega) (by omega) (by omega) rfl (by decide +kernel) ?_
  refine jT_xifT (pcN := 39) jI_246_8 rfl (by decide +kernel) rfl ?_
  refine jT_xiconst (k := 0) (pcN := 40) jI_246_39 rfl ?_
  exact jT_ret rfl (by decide) (by show 16 ≤ 16; decide) (by omega) (by omega) ⟨rfl, rfl, rfl⟩
theorem jA_115_438 {xs : List Int} {d : Nat} {x2 : Int} (h_x2 : (-2147483648) ≤ x2 ∧ x2 ≤ (-1)) : jT xs d 115 1 0 [(0, (4, 0)), (1, (0, x2)), (2, (0, 1))] [] [jgh] 1 6 (fun k v hsN => k = 1 ∧ v = (0, 0) ∧ hsN = [jgh] ++ []) := by
  refine jT_xiload_n (v := (0, x2)) (pcN := 1) jI_115_0 rfl rfl rfl ?_
  refine jT_ifT (a := x2) (t := 9) (by rfl) (by rfl) (by rfl) (jw_idd (by omega) (by omega)) (by simp only [jcP] <;> omega) ?_
  exact jT_ret (c1 := 1) (s1 := 6) rfl (by decide) (by show 1 ≤ 1; decide) (by omega) (by omega) ⟨rfl, rfl, rfl⟩
theorem jI_129_6 : jmI (jm 129) 6 = (.aload_n 0, 1) := by rfl
theorem jI_129_7 : jmI (jm 129) 7 = (.getfield 67, 3) := by rfl
theorem jI_129_10 : jmI (jm 129) 10 = (.iload_n 1, 1) := by rfl
theorem jI_129_14 : jmI (jm 129) 14 = (.astore_n 3, 1) := by rfl
theorem jI_129_15 : jmI (jm 129) 15 = (.aload_n 0, 1) := by rfl
theorem jI_129_16 : jmI (jm 129) 16 = (.iload_n 2, 1) := by rfl
theorem jI_129_17 : jmI (jm 129) 17 = (.aload_n 3, 1) := by rfl
def jpA_1805 : List JC := [jzA_5, jgh, jgh, jgh, jgh, jgh, jgh, jgh, jgh, jgh, jgh, jzA_88, jgh, (117, [], [17, 18, 19, 20]), jgh, jgh, jgh, (7, [(4, 21), (4, (-1)), (4, (-1))], []), jgh, jgh, jgh, (114, [], [22]), jgh]
theorem jA_129_439 {xs : List Int} {d : Nat} {x2 : Int} (h_x2 : (-2147483648) ≤ x2 ∧ x2 ≤ (-1)) : jT xs (d + 1) 129 23 0 [(0, (4, 0)), (1, (0, 0)), (2, (0, x2))] [] jpA_1805 1 6 (fun k v hsN => k = 1 ∧ v = (0, 0) ∧ hsN = jpA_1805 ++ []) := by
  refine jT_xaload_n (v := (4, 0)) (pcN := 1) jI_129_0 rfl rfl rfl ?_
  refine jT_xiload_n (v := (0, 0)) (pcN := 2) jI_129_1 rfl rfl rfl ?_
  refine jT_xiconst (k := 4) (pcN := 3) jI_129_2 rfl ?_
  refine jT_fR [0] 23 (y := 115) (pcN := 6) (dC := 0) (bc1 := 0) (bc2 := 0) (c1 := 1) (c2 := 6) (as := [(4, 0), (0, 0), (0, 4)]) (asC := [(4, 0), (0, 0), (0, 4)]) (LN := [(0, (4, 0)), (1, (0, 0)), (2, (0, x2))]) (stN := []) (hsC := [jgh]) (v := (9, 0)) (st2 := []) (jA_115_321 (d := 0)) (by rfl) (by rfl) (by decide +kernel) (by rfl) (by rfl) (by omega) (by omega) (by omega) (by omega) rfl ?_
  refine jT_xaload_n (v := (4, 0)) (pcN := 7) jI_129_6 rfl rfl rfl ?_
  refine jT_xgetf (a := 0) (t := 1) (ci := 13) (fi := 11) (c := jzA_5) (v := (4, 11)) (pcN := 10) jI_129_7 rfl rfl rfl rfl rfl rfl rfl ?_
  refine jT_xiload_n (v := (0, 0)) (pcN := 11) jI_129_10 rfl rfl rfl ?_
  refine jT_fR [11, 12, 13, 14, 15, 16, 17, 18, 19, 20] 23 (y := 56) (pcN := 14) (dC := 0) (bc1 := 0) (bc2 := 0) (c1 := 1) (c2 := 6) (as := [(4, 11), (0, 0)]) (asC := [(4, 0), (0, 0)]) (LN := [(0, (4, 0)), (1, (0, 0)), (2, (0, x2))]) (stN := []) (hsC := jpA_1446) (v := (4, 6)) (st2 := [(4, 17)]) (jA_56_322 (d := 0)) (by rfl) (by rfl) (by decide +kernel) (by rfl) (by rfl) (by omega) (by omega) (by omega) (by omega) rfl ?_
  refine jT_xastore_n (v := (4, 17)) (LN := [(3, (4, 17)), (0, (4, 0)), (1, (0, 0)), (2, (0, x2))]) (pcN := 15) jI_129_14 rfl rfl rfl rfl ?_
  refine jT_xaload_n (v := (4, 0)) (pcN := 16) jI_129_15 rfl rfl rfl ?_
  refine jT_xiload_n (v := (0, x2)) (pcN := 17) jI_129_16 rfl rfl rfl ?_
  refine jT_xaload_n (v := (4, 17)) (pcN := 18) jI_129_17 rfl rfl rfl ?_
  refine jT_fR [17, 21, 22] 23 (y := 29) (pcN := 21) (dC := 0) (bc1 := 0) (bc2 := 0) (c1 := 1) (c2 := 6) (as := [(4, 17)]) (asC := [(4, 0)]) (LN := [(3, (4, 17)), (0, (4, 0)), (1, (0, 0)), (2, (0, x2))]) (stN := [(0, x2), (4, 0)]) (hsC := [(7, [(4, 1), (4, (-1)), (4, (-1))], []), (114, [], [2]), jgh]) (v := (0, 1)) (st2 := [(0, 1), (0, x2), (4, 0)]) (jA_29_416 (d := 0)) (by rfl) (by rfl) (by decide +kernel) (by rfl) (by rfl) (by omega) (by omega) (by omega) (by omega) rfl ?_
  exact jT_fX [0] 23 (y := 115) (pcN := 24) (dC := 0) (bc1 := 1) (bc2 := 6) (as := [(4, 0), (0, x2), (0, 1)]) (asC := [(4, 0), (0, x2), (0, 1)]) (LN := [(3, (4, 17)), (0, (4, 0)), (1, (0, 0)), (2, (0, x2))]) (stN := []) (hsC := [jgh]) (e := 0) (jA_115_438 (d := 0) (by omega)) (by rfl) (by rfl) (by decide +kernel) (by rfl) (by rfl) (by omega) (by omega) (by omega) (by omega) ⟨rfl, ⟨rfl, rfl, rfl⟩⟩
def jpA_1806 : List JC := [jzA_14, jgh, jgh, jgh, jgh, jgh, jgh, jgh, jgh, jgh, jgh, jgh, jzA_77, jgh, (117, [], [18, 19, 20, 21]), jgh, jgh, jgh, (7, [(4, 22), (4, (-1)), (4, (-1))], []), jgh, jgh, jgh, (114, [], [23]), jgh]
theorem jA_337_440 {xs : List Int} {d : Nat} {x2 : Int} (h_x2 : (-2147483648) ≤ x2 ∧ x2 ≤ (-1)) : jT xs (d + 2) 337 24 0 [(0, (4, 0)), (1, (0, 0)), (2, (0, x2)), (3, (4, 1))] [] jpA_1806 1 6 (fun k v hsN => k = 0 ∧ v = (0, 1) ∧ hsN = jpA_1806 ++ []) := by
  refine jT_xaload_n (v := (4, 1)) (pcN := 1) jI_337_0 rfl rfl rfl ?_
  refine jT_xiconst (k := 0) (pcN := 2) jI_337_1 rfl ?_
  refine jT_xaload_n (v := (4, 0)) (pcN := 3) jI_337_2 rfl rfl rfl ?_
  refine jT_xiload_n (v := (0, 0)) (pcN := 4) jI_337_3 rfl rfl rfl ?_
  refine jT_xiload_n (v := (0, x2)) (pcN := 5) jI_337_4 rfl rfl rfl ?_
  exact jT_fX [0, 2, 3, 4, 5, 6, 7, 8, 9, 10, 11, 12, 13, 14, 15, 16, 17, 18, 19, 20, 21, 22, 23] 24 (y := 129) (pcN := 8) (dC := 1) (bc1 := 1) (bc2 := 6) (as := [(4, 0), (0, 0), (0, x2)]) (asC := [(4, 0), (0, 0), (0, x2)]) (LN := [(0, (4, 0)), (1, (0, 0)), (2, (0, x2)), (3, (4, 1))]) (stN := [(0, 0), (4, 1)]) (hsC := jpA_1805) (e := 0) (jA_129_439 (d := 0) (by omega)) (by rfl) (by rfl) (by decide +kernel) (by rfl) (by rfl) (by omega) (by omega) (by omega) (by omega) (show _ from ⟨rfl, rfl, rfl⟩)
theorem jI_247_0 : jmI (jm 247) 0 = (.iload_n 2, 1) := by rfl
theorem jI_247_1 : jmI (jm 247) 1 = (.i2l, 1) := by rfl
theorem jI_247_2 : jmI (jm 247) 2 = (.lconst 0, 1) := by rfl
theorem jI_247_3 : jmI (jm 247) 3 = (.aload_n 0, 1) := by rfl
theorem jI_247_4 : jmI (jm 247) 4 = (.iload_n 1, 1) := by rfl
theorem jI_247_8 : jmI (jm 247) 8 = (.iconst 1, 1) := by rfl
theorem jI_247_9 : jmI (jm 247) 9 = (.isub, 1) := by rfl
theorem jI_247_10 : jmI (jm 247) 10 = (.i2l, 1) := by rfl
theorem jA_247_441 {xs : List Int} {d : Nat} {x2 : Int} (h_x2 : (-2147483648) ≤ x2 ∧ x2 ≤ (-1)) : jT xs (d + 1) 247 16 0 [(0, (4, 0)), (1, (0, 0)), (2, (0, x2))] [] jpA_1519 0 0 (fun k v hsN => k = 0 ∧ v = (0, 0) ∧ hsN = jpA_1519 ++ []) := by
  refine jT_xiload_n (v := (0, x2)) (pcN := 1) jI_247_0 rfl rfl rfl ?_
  refine jT_xi2l (x := x2) (z := x2) (pcN := 2) jI_247_1 rfl (jw_idd (by omega) (by omega)) rfl ?_
  refine jT_xlconst (z := 0) (pcN := 3) jI_247_2 rfl rfl ?_
  refine jT_xaload_n (v := (4, 0)) (pcN := 4) jI_247_3 rfl rfl rfl ?_
  refine jT_xiload_n (v := (0, 0)) (pcN := 5) jI_247_4 rfl rfl rfl ?_
  refine jT_fR [0, 1, 2, 3, 4, 5, 6, 7, 8, 9, 10, 11, 12, 13, 14, 15] 16 (y := 245) (pcN := 8) (dC := 0) (bc1 := 0) (bc2 := 0) (c1 := 0) (c2 := 0) (as := [(4, 0), (0, 0)]) (asC := [(4, 0), (0, 0)]) (LN := [(0, (4, 0)), (1, (0, 0)), (2, (0, x2))]) (stN := [(1, 0), (1, x2)]) (hsC := jpA_1519) (v := (0, 1)) (st2 := [(0, 1), (1, 0), (1, x2)]) (jA_245_339 (d := 0)) (by rfl) (by rfl) (by decide +kernel) (by rfl) (by rfl) (by omega) (by omega) (by omega) (by omega) rfl ?_
  refine jT_xiconst (k := 1) (pcN := 9) jI_247_8 rfl ?_
  refine jT_xisub (x := 1) (y := 1) (z := 0) (pcN := 10) jI_247_9 rfl (by decide) rfl ?_
  refine jT_xi2l (x := 0) (z := 0) (pcN := 11) jI_247_10 rfl (by decide +kernel) rfl ?_
  refine jT_fR [] 16 (y := 189) (pcN := 14) (dC := 0) (bc1 := 0) (bc2 := 0) (c1 := 0) (c2 := 0) (as := [(1, x2), (1, 0), (1, 0)]) (asC := [(1, x2), (1, 0), (1, 0)]) (LN := [(0, (4, 0)), (1, (0, 0)), (2, (0, x2))]) (stN := []) (hsC := []) (v := (0, 0)) (st2 := [(0, 0)]) (jT_in_lo (d := 0) (v := x2) (lo := 0) (hi := 0) (by omega) (by omega) (by omega) (by omega)) (by rfl) (by rfl) (by decide +kernel) (by rfl) (by rfl) (by omega) (by omega) (by omega) (by omega) rfl ?_
  exact jT_ret rfl (by decide) (by show 16 ≤ 16; decide) (by omega) (by omega) ⟨rfl, rfl, rfl⟩
theorem jI_246_11 : jmI (jm 246) 11 = (.aload_n 0, 1) := by rfl
theorem jI_246_12 : jmI (jm 246) 12 = (.aload_n 0, 1) := by rfl
theorem jI_246_13 : jmI (jm 246) 13 = (.iload_n 1, 1) := by rfl
theorem jI_246_14 : jmI (jm 246) 14 = (.iload_n 2, 1) := by rfl
theorem jI_246_18 : jmI (jm 246) 18 = (.iconst 1, 1) := by rfl
def jpA_1820 : List JC := [jzA_19, (100, [], jS0), jgh, jgh, jgh, jgh, jgh, jgh, jgh, jgh, jgh, jgh, jgh, jgh, jgh, jgh]
theorem jI_246_22 : jmI (jm 246) 22 = (.ifCond .ne 17, 3) := by rfl
theorem jA_246_442 {xs : List Int} {d : Nat} {x2 : Int} (h_x2 : (-2147483648) ≤ x2 ∧ x2 ≤ (-1)) : jT xs (d + 2) 246 16 0 [(0, (4, 0)), (1, (0, 0)), (2, (0, x2))] [] jpA_1519 0 0 (fun k v hsN => k = 0 ∧ v = (0, 0) ∧ hsN = jpA_1820) := by
  refine jT_xaload_n (v := (4, 0)) (pcN := 1) jI_246_0 rfl rfl rfl ?_
  refine jT_xiload_n (v := (0, 0)) (pcN := 2) jI_246_1 rfl rfl rfl ?_
  refine jT_fR [] 16 (y := 238) (pcN := 5) (dC := 1) (bc1 := 0) (bc2 := 0) (c1 := 0) (c2 := 0) (as := [(0, 0)]) (asC := [(0, 0)]) (LN := [(0, (4, 0)), (1, (0, 0)), (2, (0, x2))]) (stN := [(4, 0)]) (hsC := []) (v := (0, 1)) (st2 := [(0, 1), (4, 0)]) (jA_238_338 (d := 0)) (by rfl) (by rfl) (by decide +kernel) (by rfl) (by rfl) (by omega) (by omega) (by omega) (by omega) rfl ?_
  refine jT_fR [0, 1, 2, 3, 4, 5, 6, 7, 8, 9, 10, 11, 12, 13, 14, 15] 16 (y := 190) (pcN := 8) (dC := 1) (bc1 := 0) (bc2 := 0) (c1 := 0) (c2 := 0) (as := [(4, 0), (0, 1)]) (asC := [(4, 0), (0, 1)]) (LN := [(0, (4, 0)), (1, (0, 0)), (2, (0, x2))]) (stN := []) (hsC := jpA_22) (v := (0, 0)) (st2 := [(0, 0)]) (jA_190_39 (d := 0)) (by rfl) (by rfl) (by decide +kernel) (by rfl) (by rfl) (by omega) (by omega) (by omega) (by omega) rfl ?_
  refine jT_xifF (t := 39) (pcN := 11) jI_246_8 rfl (by decide +kernel) rfl rfl ?_
  refine jT_xaload_n (v := (4, 0)) (pcN := 12) jI_246_11 rfl rfl rfl ?_
  refine jT_xaload_n (v := (4, 0)) (pcN := 13) jI_246_12 rfl rfl rfl ?_
  refine jT_xiload_n (v := (0, 0)) (pcN := 14) jI_246_13 rfl rfl rfl ?_
  refine jT_xiload_n (v := (0, x2)) (pcN := 15) jI_246_14 rfl rfl rfl ?_
  refine jT_fR [0, 1, 2, 3, 4, 5, 6, 7, 8, 9, 10, 11, 12, 13, 14, 15] 16 (y := 247) (pcN := 18) (dC := 1) (bc1 := 0) (bc2 := 0) (c1 := 0) (c2 := 0) (as := [(4, 0), (0, 0), (0, x2)]) (asC := [(4, 0), (0, 0), (0, x2)]) (LN := [(0, (4, 0)), (1, (0, 0)), (2, (0, x2))]) (stN := [(4, 0)]) (hsC := jpA_1519) (v := (0, 0)) (st2 := [(0, 0), (4, 0)]) (jA_247_441 (d := 0) (by omega)) (by rfl) (by rfl) (by decide +kernel) (by rfl) (by rfl) (by omega) (by omega) (by omega) (by omega) rfl ?_
  refine jT_xiconst (k := 1) (pcN := 19) jI_246_18 rfl ?_
  refine jT_fB [0, 1, 2, 3, 4, 5, 6, 7, 8, 9, 10, 11, 12, 13, 14, 15] 16 (y := 191) (pcN := 22) (dC := 0) (bc1 := 0) (bc2 := 0) (c1 := 0) (c2 := 0) (as := [(4, 0), (0, 0), (0, 1)]) (asC := [(4, 0), (0, 0), (0, 1)]) (LN := [(0, (4, 0)), (1, (0, 0)), (2, (0, x2))]) (stN := []) (hsC := jpA_22) (hsD := jpA_20) (v := (0, 1)) (st2 := [(0, 1)]) (hs2 := jpA_1820) (jA_191_5 (d := 0)) (by rfl) (by rfl) (by decide +kernel) (by rfl) (by rfl) (by omega) (by omega) (by omega) (by omega) rfl (by decide +kernel) ?_
  refine jT_xifT (pcN := 39) jI_246_22 rfl (by decide +kernel) rfl ?_
  refine jT_xiconst (k := 0) (pcN := 40) jI_246_39 rfl ?_
  exact jT_ret rfl (by decide) (by show 16 ≤ 16; decide) (by omega) (by omega) ⟨rfl, rfl, rfl⟩
theorem jA_115_443 {xs : List Int} {d : Nat} : jT xs d 115 1 0 [(0, (4, 0)), (1, (0, 0)), (2, (0, 1))] [] [jgh] 0 0 (fun k v hsN => k = 0 ∧ v = (9, 0) ∧ hsN = [jgh] ++ []) := by
  refine jT_advK 5 (pcN := 20) (LN := [(0, (4, 0)), (1, (0, 0)), (2, (0, 1))]) (stN := []) (hsN := [jgh]) (c1 := 0) (s1 := 0) (c2 := 0) (s2 := 0) (by decide +kernel) ?_ (by omega) (by omega)
  exact jT_ret rfl (by decide) (by show 1 ≤ 1; decide) (by omega) (by omega) ⟨rfl, rfl, rfl⟩
def jpA_1822 : List JC := [(7, [(4, 1), (4, (-1)), (4, (-1))], []), (114, [], [2]), (4, [(4, 3), (1, 1)], []), (101, [], [0, 0, 0, 0, 0, 0])]
def jpA_1823 : List JC := [(7, [(4, 1), (4, (-1)), (4, (-1))], []), (114, [], [2]), (4, [(4, 3), (1, 1)], []), (101, [], [0, 0, 0, 0, 0, 0]), (101, [], [0, 0, 0, 0, 0, 0]), (4, [(4, 4), (1, 1)], [])]
theorem jA_32_444 {xs : List Int} {d : Nat} : jT xs (d + 3) 32 4 0 [(0, (4, 0)), (1, (0, 0)), (2, (0, 0))] [] jpA_1822 2 8 (fun k v hsN => k = 0 ∧ v = (4, 5) ∧ hsN = jpA_1822 ++ [(101, [], [0, 0, 0, 0, 0, 0]), (4, [(4, 4), (1, 1)], [])]) := by
  refine jT_advK 22 (pcN := 48) (LN := [(4, (0, 0)), (3, (0, 0)), (0, (4, 0)), (1, (0, 0)), (2, (0, 0))]) (stN := [(0, 1), (4, 2), (4, 2)]) (hsN := jpA_1822) (c1 := 0) (s1 := 0) (c2 := 2) (s2 := 8) (by decide +kernel) ?_ (by omega) (by omega)
  refine jT_fA [2, 3] 4 (y := 11) (pcN := 51) (dC := 2) (bc1 := 2) (bc2 := 8) (c1 := 0) (c2 := 0) (as := [(4, 2), (4, 2), (0, 1)]) (asC := [(4, 0), (4, 0), (0, 1)]) (LN := [(4, (0, 0)), (3, (0, 0)), (0, (4, 0)), (1, (0, 0)), (2, (0, 0))]) (stN := []) (hsC := [(4, [(4, 1), (1, 1)], []), (101, [], [0, 0, 0, 0, 0, 0])]) (ex := [(101, [], [0, 0, 0, 0, 0, 0]), (4, [(4, 2), (1, 1)], [])]) (v := (4, 3)) (st2 := [(4, 5)]) (hs2 := jpA_1823) (jA_11_28 (d := 0)) (by rfl) (by rfl) (by decide +kernel) (by rfl) (by rfl) (by omega) (by omega) (by omega) (by omega) rfl (by decide +kernel) ?_
  refine jT_advK 4 (pcN := 71) (LN := [(5, (4, 5)), (4, (0, 0)), (3, (0, 0)), (0, (4, 0)), (1, (0, 0)), (2, (0, 0))]) (stN := [(4, 5)]) (hsN := jpA_1823) (c1 := 0) (s1 := 0) (c2 := 0) (s2 := 0) (by decide +kernel) ?_ (by omega) (by omega)
  exact jT_ret rfl (by decide) (by show 4 ≤ 6; decide) (by omega) (by omega) ⟨rfl, rfl, rfl⟩
def jpA_1824 : List JC := [(114, [], [1]), (4, [(4, 2), (1, 1)], []), jgh, (114, [], [1]), jzA_1453]
def jpA_1825 : List JC := [(114, [], [1]), (4, [(4, 2), (1, 1)], []), jgh, (114, [], [1]), (7, [(4, 3), (4, (-1)), (4, (-1))], [])]
theorem jA_27_445 {xs : List Int} {d : Nat} : jT xs (d + 1) 27 3 0 [(0, (4, 0)), (1, (0, 1))] [] [(114, [], [1]), (4, [(4, 2), (1, 1)], []), jgh] 2 4 (fun k v hsN => k = 0 ∧ v = (4, 4) ∧ hsN = [(114, [], [1]), (4, [(4, 2), (1, 1)], []), jgh] ++ [(114, [], [1]), (7, [(4, 3), (4, (-1)), (4, (-1))], [])]) := by
  refine jT_advK 29 (pcN := 39) (LN := [(3, (0, 1)), (2, (4, 3)), (0, (4, 0)), (1, (0, 1))]) (stN := [(4, 3), (4, 4), (4, 4)]) (hsN := jpA_1824) (c1 := 2) (s1 := 4) (c2 := 0) (s2 := 0) (by decide +kernel) ?_ (by omega) (by omega)
  refine jT_fB [4, 3] 5 (y := 28) (pcN := 42) (dC := 0) (bc1 := 0) (bc2 := 0) (c1 := 0) (c2 := 0) (as := [(4, 4), (4, 3)]) (asC := [(4, 0), (4, 1)]) (LN := [(3, (0, 1)), (2, (4, 3)), (0, (4, 0)), (1, (0, 1))]) (stN := [(4, 4)]) (hsC := [jzA_1453, jgh]) (hsD := [(7, [(4, 1), (4, (-1)), (4, (-1))], []), jgh]) (v := (9, 0)) (st2 := [(4, 4)]) (hs2 := jpA_1825) (jA_28_331 (d := 0)) (by rfl) (by rfl) (by decide +kernel) (by rfl) (by rfl) (by omega) (by omega) (by omega) (by omega) rfl (by decide +kernel) ?_
  exact jT_ret rfl (by decide) (by show 3 ≤ 5; decide) (by omega) (by omega) ⟨rfl, rfl, rfl⟩
def jpA_1826 : List JC := [jzA_5, jgh, jgh, jgh, jgh, jgh, jgh, jgh, jgh, jgh, jzA_79, jzA_88, jgh, (117, [], [17, 18, 19, 20]), jgh, jgh, jgh, (7, [(4, 21), (4, (-1)), (4, (-1))], []), jgh, jgh, jgh, (114, [], [22]), (4, [(4, 23), (1, 1)], []), (101, [], [0, 0, 0, 0, 0, 0])]
def jpA_1827 : List JC := [jzA_5, jgh, jgh, jgh, jgh, jgh, jgh, jgh, jgh, jgh, jzA_79, jzA_88, jgh, (117, [], [17, 18, 19, 20]), jgh, jgh, jgh, (7, [(4, 21), (4, (-1)), (4, (-1))], []), jgh, jgh, jgh, (114, [], [22]), (4, [(4, 23), (1, 1)], []), (101, [], [0, 0, 0, 0, 0, 0]), (114, [], [(-1)])]
def jpA_1828 : List JC := [jzA_5, jgh, jgh, jgh, jgh, jgh, jgh, jgh, jgh, jgh, jzA_79, jzA_88, jgh, (117, [], [17, 18, 19, 20]), jgh, jgh, jgh, (7, [(4, 21), (4, (-1)), (4, (-1))], []), jgh, jgh, jgh, (114, [], [22]), (4, [(4, 23), (1, 1)], []), (101, [], [0, 0, 0, 0, 0, 0]), (114, [], [(-1)]), (101, [], [0, 0, 0, 0, 0, 0]), (4, [(4, 25), (1, 1)], [])]
def jpA_1829 : List JC := [jzA_5, jgh, jgh, jgh, jgh, jgh, jgh, jgh, jgh, jgh, jzA_79, jzA_88, jgh, (117, [], [17, 18, 19, 20]), jgh, jgh, jgh, (7, [(4, 21), (4, (-1)), (4, (-1))], []), jgh, jgh, jgh, (114, [], [22]), (4, [(4, 23), (1, 1)], []), (101, [], [0, 0, 0, 0, 0, 0]), (114, [], [26]), (101, [], [0, 0, 0, 0, 0, 0]), (4, [(4, 25), (1, 1)], [])]
def jpA_1830 : List JC := [jzA_5, jgh, jgh, jgh, jgh, jgh, jgh, jgh, jgh, jgh, jzA_79, jzA_88, jgh, (117, [], [17, 18, 19, 20]), jgh, jgh, jgh, (7, [(4, 21), (4, (-1)), (4, (-1))], []), jgh, jgh, jgh, (114, [], [22]), (4, [(4, 23), (1, 1)], []), (101, [], [0, 0, 0, 0, 0, 0]), (114, [], [26]), (101, [], [0, 0, 0, 0, 0, 0]), (4, [(4, 25), (1, 1)], []), (114, [], [26]), (7, [(4, 27), (4, (-1)), (4, (-1))], [])]
def jzA_1831 : JC := (9, [(4, 12), (4, 29), (4, 14), (4, 15), (4, 16)], [])
def jpA_1832 : List JC := [jzA_5, jgh, jgh, jgh, jgh, jgh, jgh, jgh, jgh, jgh, jzA_79, jzA_88, jgh, (117, [], [17, 18, 19, 20]), jgh, jgh, jgh, (7, [(4, 21), (4, (-1)), (4, (-1))], []), jgh, jgh, jgh, (114, [], [22]), (4, [(4, 23), (1, 1)], []), (101, [], [0, 0, 0, 0, 0, 0]), (114, [], [26]), (101, [], [0, 0, 0, 0, 0, 0]), (4, [(4, 25), (1, 1)], []), (114, [], [26]), (7, [(4, 27), (4, (-1)), (4, (-1))], []), (117, [], [28, 18, 19, 20]), jzA_1831]
def jzA_1833 : JC := (13, [(4, 1), (4, 2), (4, 3), (4, 4), (4, 5), (4, 6), (4, 7), (4, 8), (4, 9), (4, 10), (0, 1), (4, 30), (0, 0)], [])
def jpA_1834 : List JC := [jzA_1833, jgh, jgh, jgh, jgh, jgh, jgh, jgh, jgh, jgh, jzA_102, jzA_88, jgh, (117, [], [17, 18, 19, 20]), jgh, jgh, jgh, (7, [(4, 21), (4, (-1)), (4, (-1))], []), jgh, jgh, jgh, (114, [], [22]), (4, [(4, 23), (1, 1)], []), (101, [], [0, 0, 0, 0, 0, 0]), (114, [], [26]), (101, [], [0, 0, 0, 0, 0, 0]), (4, [(4, 25), (1, 1)], []), (114, [], [26]), (7, [(4, 27), (4, (-1)), (4, (-1))], []), (117, [], [28, 18, 19, 20]), jzA_1831]
theorem jA_129_446 {xs : List Int} {d : Nat} : jT xs (d + 4) 129 24 0 [(0, (4, 0)), (1, (0, 0)), (2, (0, 0))] [] jpA_1826 7 22 (fun k v hsN => k = 0 ∧ v = (0, 1) ∧ hsN = jpA_1834) := by
  refine jT_advK 3 (pcN := 3) (LN := [(0, (4, 0)), (1, (0, 0)), (2, (0, 0))]) (stN := [(0, 4), (0, 0), (4, 0)]) (hsN := jpA_1826) (c1 := 0) (s1 := 0) (c2 := 7) (s2 := 22) (by decide +kernel) ?_ (by omega) (by omega)
  refine jT_fR [0] 24 (y := 115) (pcN := 6) (dC := 0) (bc1 := 0) (bc2 := 0) (c1 := 7) (c2 := 22) (as := [(4, 0), (0, 0), (0, 4)]) (asC := [(4, 0), (0, 0), (0, 4)]) (LN := [(0, (4, 0)), (1, (0, 0)), (2, (0, 0))]) (stN := []) (hsC := [jgh]) (v := (9, 0)) (st2 := []) (jA_115_321 (d := 0)) (by rfl) (by rfl) (by decide +kernel) (by rfl) (by rfl) (by omega) (by omega) (by omega) (by omega) rfl ?_
  refine jT_advK 3 (pcN := 11) (LN := [(0, (4, 0)), (1, (0, 0)), (2, (0, 0))]) (stN := [(0, 0), (4, 11)]) (hsN := jpA_1826) (c1 := 0) (s1 := 0) (c2 := 7) (s2 := 22) (by decide +kernel) ?_ (by omega) (by omega)
  refine jT_fR [11, 12, 13, 14, 15, 16, 17, 18, 19, 20] 24 (y := 56) (pcN := 14) (dC := 0) (bc1 := 0) (bc2 := 0) (c1 := 7) (c2 := 22) (as := [(4, 11), (0, 0)]) (asC := [(4, 0), (0, 0)]) (LN := [(0, (4, 0)), (1, (0, 0)), (2, (0, 0))]) (stN := []) (hsC := jpA_1446) (v := (4, 6)) (st2 := [(4, 17)]) (jA_56_322 (d := 0)) (by rfl) (by rfl) (by decide +kernel) (by rfl) (by rfl) (by omega) (by omega) (by omega) (by omega) rfl ?_
  refine jT_advK 4 (pcN := 18) (LN := [(3, (4, 17)), (0, (4, 0)), (1, (0, 0)), (2, (0, 0))]) (stN := [(4, 17), (0, 0), (4, 0)]) (hsN := jpA_1826) (c1 := 0) (s1 := 0) (c2 := 7) (s2 := 22) (by decide +kernel) ?_ (by omega) (by omega)
  refine jT_fR [17, 21, 22] 24 (y := 29) (pcN := 21) (dC := 0) (bc1 := 0) (bc2 := 0) (c1 := 7) (c2 := 22) (as := [(4, 17)]) (asC := [(4, 0)]) (LN := [(3, (4, 17)), (0, (4, 0)), (1, (0, 0)), (2, (0, 0))]) (stN := [(0, 0), (4, 0)]) (hsC := [(7, [(4, 1), (4, (-1)), (4, (-1))], []), (114, [], [2]), jgh]) (v := (0, 1)) (st2 := [(0, 1), (0, 0), (4, 0)]) (jA_29_416 (d := 0)) (by rfl) (by rfl) (by decide +kernel) (by rfl) (by rfl) (by omega) (by omega) (by omega) (by omega) rfl ?_
  refine jT_fR [0] 24 (y := 115) (pcN := 24) (dC := 0) (bc1 := 0) (bc2 := 0) (c1 := 7) (c2 := 22) (as := [(4, 0), (0, 0), (0, 1)]) (asC := [(4, 0), (0, 0), (0, 1)]) (LN := [(3, (4, 17)), (0, (4, 0)), (1, (0, 0)), (2, (0, 0))]) (stN := []) (hsC := [jgh]) (v := (9, 0)) (st2 := []) (jA_115_443 (d := 0)) (by rfl) (by rfl) (by decide +kernel) (by rfl) (by rfl) (by omega) (by omega) (by omega) (by omega) rfl ?_
  refine jT_advK 1 (pcN := 25) (LN := [(3, (4, 17)), (0, (4, 0)), (1, (0, 0)), (2, (0, 0))]) (stN := [(4, 17)]) (hsN := jpA_1826) (c1 := 0) (s1 := 0) (c2 := 7) (s2 := 22) (by decide +kernel) ?_ (by omega) (by omega)
  refine jT_fR [17, 21, 22] 24 (y := 29) (pcN := 28) (dC := 0) (bc1 := 0) (bc2 := 0) (c1 := 7) (c2 := 22) (as := [(4, 17)]) (asC := [(4, 0)]) (LN := [(3, (4, 17)), (0, (4, 0)), (1, (0, 0)), (2, (0, 0))]) (stN := []) (hsC := [(7, [(4, 1), (4, (-1)), (4, (-1))], []), (114, [], [2]), jgh]) (v := (0, 1)) (st2 := [(0, 1)]) (jA_29_416 (d := 0)) (by rfl) (by rfl) (by decide +kernel) (by rfl) (by rfl) (by omega) (by omega) (by omega) (by omega) rfl ?_
  refine jT_advK 13 (pcN := 52) (LN := [(5, (0, 0)), (4, (4, 24)), (3, (4, 17)), (0, (4, 0)), (1, (0, 0)), (2, (0, 0))]) (stN := [(0, 0), (0, 0), (4, 17), (0, 0), (4, 24)]) (hsN := jpA_1827) (c1 := 1) (s1 := 1) (c2 := 6) (s2 := 21) (by decide +kernel) ?_ (by omega) (by omega)
  refine jT_fA [17, 21, 22, 23] 25 (y := 32) (pcN := 55) (dC := 3) (bc1 := 2) (bc2 := 8) (c1 := 4) (c2 := 13) (as := [(4, 17), (0, 0), (0, 0)]) (asC := [(4, 0), (0, 0), (0, 0)]) (LN := [(5, (0, 0)), (4, (4, 24)), (3, (4, 17)), (0, (4, 0)), (1, (0, 0)), (2, (0, 0))]) (stN := [(0, 0), (4, 24)]) (hsC := jpA_1822) (ex := [(101, [], [0, 0, 0, 0, 0, 0]), (4, [(4, 4), (1, 1)], [])]) (v := (4, 5)) (st2 := [(4, 26), (0, 0), (4, 24)]) (hs2 := jpA_1828) (jA_32_444 (d := 0)) (by rfl) (by rfl) (by decide +kernel) (by rfl) (by rfl) (by omega) (by omega) (by omega) (by omega) rfl (by decide +kernel) ?_
  refine jT_advK 5 (pcN := 62) (LN := [(5, (0, 0)), (4, (4, 24)), (3, (4, 17)), (0, (4, 0)), (1, (0, 0)), (2, (0, 0))]) (stN := [(4, 26), (4, 0)]) (hsN := jpA_1829) (c1 := 0) (s1 := 0) (c2 := 4) (s2 := 13) (by decide +kernel) ?_ (by omega) (by omega)
  refine jT_fR [0, 26, 25] 27 (y := 117) (pcN := 65) (dC := 2) (bc1 := 0) (bc2 := 0) (c1 := 4) (c2 := 13) (as := [(4, 0), (4, 26)]) (asC := [(4, 0), (4, 1)]) (LN := [(5, (0, 0)), (4, (4, 24)), (3, (4, 17)), (0, (4, 0)), (1, (0, 0)), (2, (0, 0))]) (stN := []) (hsC := [jgh, (4, [(4, 2), (1, 1)], []), (101, [], [0, 0, 0, 0, 0, 0])]) (v := (9, 0)) (st2 := []) (jA_117_31 (d := 0)) (by rfl) (by rfl) (by decide +kernel) (by rfl) (by rfl) (by omega) (by omega) (by omega) (by omega) rfl ?_
  refine jT_advK 13 (pcN := 82) (LN := [(5, (0, 1)), (4, (4, 24)), (3, (4, 17)), (0, (4, 0)), (1, (0, 0)), (2, (0, 0))]) (stN := [(0, 1), (4, 24), (0, 0), (4, 11), (4, 0)]) (hsN := jpA_1829) (c1 := 0) (s1 := 0) (c2 := 4) (s2 := 13) (by decide +kernel) ?_ (by omega) (by omega)
  refine jT_fA [24, 26, 25] 27 (y := 27) (pcN := 85) (dC := 1) (bc1 := 2) (bc2 := 4) (c1 := 2) (c2 := 9) (as := [(4, 24), (0, 1)]) (asC := [(4, 0), (0, 1)]) (LN := [(5, (0, 1)), (4, (4, 24)), (3, (4, 17)), (0, (4, 0)), (1, (0, 0)), (2, (0, 0))]) (stN := [(0, 0), (4, 11), (4, 0)]) (hsC := [(114, [], [1]), (4, [(4, 2), (1, 1)], []), jgh]) (ex := [(114, [], [1]), (7, [(4, 3), (4, (-1)), (4, (-1))], [])]) (v := (4, 4)) (st2 := [(4, 28), (0, 0), (4, 11), (4, 0)]) (hs2 := jpA_1830) (jA_27_445 (d := 0)) (by rfl) (by rfl) (by decide +kernel) (by rfl) (by rfl) (by omega) (by omega) (by omega) (by omega) rfl (by decide +kernel) ?_
  refine jT_fA [11, 28, 12, 13, 14, 15, 16, 27, 17, 18, 19, 20] 29 (y := 60) (pcN := 88) (dC := 1) (bc1 := 2) (bc2 := 9) (c1 := 0) (c2 := 0) (as := [(4, 11), (0, 0), (4, 28)]) (asC := [(4, 0), (0, 0), (4, 1)]) (LN := [(5, (0, 1)), (4, (4, 24)), (3, (4, 17)), (0, (4, 0)), (1, (0, 0)), (2, (0, 0))]) (stN := [(4, 0)]) (hsC := jpA_1461) (ex := [(117, [], [1, 9, 10, 11]), jzA_1459]) (v := (4, 13)) (st2 := [(4, 30), (4, 0)]) (hs2 := jpA_1832) (jA_60_334 (d := 0)) (by rfl) (by rfl) (by decide +kernel) (by rfl) (by rfl) (by omega) (by omega) (by omega) (by omega) rfl (by decide +kernel) ?_
  refine jT_fB [0, 30, 1, 2, 3, 4, 5, 6, 7, 8, 9, 10, 11, 12, 13, 14, 15, 16] 31 (y := 100) (pcN := 91) (dC := 0) (bc1 := 0) (bc2 := 0) (c1 := 0) (c2 := 0) (as := [(4, 0), (4, 30)]) (asC := [(4, 0), (4, 1)]) (LN := [(5, (0, 1)), (4, (4, 24)), (3, (4, 17)), (0, (4, 0)), (1, (0, 0)), (2, (0, 0))]) (stN := []) (hsC := jpA_80) (hsD := jpA_78) (v := (9, 0)) (st2 := []) (hs2 := jpA_1834) (jA_100_34 (d := 0)) (by rfl) (by rfl) (by decide +kernel) (by rfl) (by rfl) (by omega) (by omega) (by omega) (by omega) rfl (by decide +kernel) ?_
  refine jT_advK 2 (pcN := 94) (LN := [(5, (0, 1)), (4, (4, 24)), (3, (4, 17)), (0, (4, 0)), (1, (0, 0)), (2, (0, 0))]) (stN := [(0, 1)]) (hsN := jpA_1834) (c1 := 0) (s1 := 0) (c2 := 0) (s2 := 0) (by decide +kernel) ?_ (by omega) (by omega)
  exact jT_ret rfl (by decide) (by show 24 ≤ 31; decide) (by omega) (by omega) ⟨rfl, rfl, rfl⟩
def jpA_1835 : List JC := [jzA_14, (101, [], [0]), jgh, jgh, jgh, jgh, jgh, jgh, jgh, jgh, jgh, jzA_79, jzA_77, jgh, (117, [], [18, 19, 20, 21]), jgh, jgh, jgh, (7, [(4, 22), (4, (-1)), (4, (-1))], []), jgh, jgh, jgh, (114, [], [23]), (4, [(4, 24), (1, 1)], []), (101, [], [0, 0, 0, 0, 0, 0])]
def jzA_1836 : JC := (13, [(4, 2), (4, 3), (4, 4), (4, 5), (4, 6), (4, 7), (4, 8), (4, 9), (4, 10), (4, 11), (0, 1), (4, 31), (0, 0)], [])
def jzA_1837 : JC := (9, [(4, 13), (4, 30), (4, 15), (4, 16), (4, 17)], [])
def jpA_1838 : List JC := [jzA_1836, (101, [], [0]), jgh, jgh, jgh, jgh, jgh, jgh, jgh, jgh, jgh, jzA_76, jzA_77, jgh, (117, [], [18, 19, 20, 21]), jgh, jgh, jgh, (7, [(4, 22), (4, (-1)), (4, (-1))], []), jgh, jgh, jgh, (114, [], [23]), (4, [(4, 24), (1, 1)], []), (101, [], [0, 0, 0, 0, 0, 0]), (114, [], [27]), (101, [], [0, 0, 0, 0, 0, 0]), (4, [(4, 26), (1, 1)], []), (114, [], [27]), (7, [(4, 28), (4, (-1)), (4, (-1))], []), (117, [], [29, 19, 20, 21]), jzA_1837]
def jpA_1839 : List JC := [jzA_1836, (101, [], [1]), jgh, jgh, jgh, jgh, jgh, jgh, jgh, jgh, jgh, jzA_76, jzA_77, jgh, (117, [], [18, 19, 20, 21]), jgh, jgh, jgh, (7, [(4, 22), (4, (-1)), (4, (-1))], []), jgh, jgh, jgh, (114, [], [23]), (4, [(4, 24), (1, 1)], []), (101, [], [0, 0, 0, 0, 0, 0]), (114, [], [27]), (101, [], [0, 0, 0, 0, 0, 0]), (4, [(4, 26), (1, 1)], []), (114, [], [27]), (7, [(4, 28), (4, (-1)), (4, (-1))], []), (117, [], [29, 19, 20, 21]), jzA_1837]
theorem jA_337_447 {xs : List Int} {d : Nat} : jT xs (d + 5) 337 25 0 [(0, (4, 0)), (1, (0, 0)), (2, (0, 0)), (3, (4, 1))] [] jpA_1835 7 22 (fun k v hsN => k = 0 ∧ v = (0, 0) ∧ hsN = jpA_1839) := by
  refine jT_advK 5 (pcN := 5) (LN := [(0, (4, 0)), (1, (0, 0)), (2, (0, 0)), (3, (4, 1))]) (stN := [(0, 0), (0, 0), (4, 0), (0, 0), (4, 1)]) (hsN := jpA_1835) (c1 := 0) (s1 := 0) (c2 := 7) (s2 := 22) (by decide +kernel) ?_ (by omega) (by omega)
  refine jT_fB [0, 2, 3, 4, 5, 6, 7, 8, 9, 10, 11, 12, 13, 14, 15, 16, 17, 18, 19, 20, 21, 22, 23, 24] 25 (y := 129) (pcN := 8) (dC := 4) (bc1 := 7) (bc2 := 22) (c1 := 0) (c2 := 0) (as := [(4, 0), (0, 0), (0, 0)]) (asC := [(4, 0), (0, 0), (0, 0)]) (LN := [(0, (4, 0)), (1, (0, 0)), (2, (0, 0)), (3, (4, 1))]) (stN := [(0, 0), (4, 1)]) (hsC := jpA_1826) (hsD := jpA_1834) (v := (0, 1)) (st2 := [(0, 1), (0, 0), (4, 1)]) (hs2 := jpA_1838) (jA_129_446 (d := 0)) (by rfl) (by rfl) (by decide +kernel) (by rfl) (by rfl) (by omega) (by omega) (by omega) (by omega) rfl (by decide +kernel) ?_
  refine jT_advK 4 (pcN := 22) (LN := [(0, (4, 0)), (1, (0, 0)), (2, (0, 0)), (3, (4, 1))]) (stN := [(0, 0)]) (hsN := jpA_1839) (c1 := 0) (s1 := 0) (c2 := 0) (s2 := 0) (by decide +kernel) ?_ (by omega) (by omega)
  exact jT_ret rfl (by decide) (by show 25 ≤ 32; decide) (by omega) (by omega) ⟨rfl, rfl, rfl⟩
theorem jA_189_448 {xs : List Int} {d : Nat} : jT xs d 189 0 0 [(0, (1, 0)), (2, (1, 0)), (4, (1, 0))] [] [] 0 0 (fun k v hsN => k = 0 ∧ v = (0, 1) ∧ hsN = [] ++ []) := by
  refine jT_advK 10 (pcN := 18) (LN := [(0, (1, 0)), (2, (1, 0)), (4, (1, 0))]) (stN := [(0, 1)]) (hsN := []) (c1 := 0) (s1 := 0) (c2 := 0) (s2 := 0) (by decide +kernel) ?_ (by omega) (by omega)
  exact jT_ret rfl (by decide) (by show 0 ≤ 0; decide) (by omega) (by omega) ⟨rfl, rfl, rfl⟩
theorem jA_247_449 {xs : List Int} {d : Nat} : jT xs (d + 1) 247 16 0 [(0, (4, 0)), (1, (0, 0)), (2, (0, 0))] [] jpA_1519 0 0 (fun k v hsN => k = 0 ∧ v = (0, 1) ∧ hsN = jpA_1519 ++ []) := by
  refine jT_advK 5 (pcN := 5) (LN := [(0, (4, 0)), (1, (0, 0)), (2, (0, 0))]) (stN := [(0, 0), (4, 0), (1, 0), (1, 0)]) (hsN := jpA_1519) (c1 := 0) (s1 := 0) (c2 := 0) (s2 := 0) (by decide +kernel) ?_ (by omega) (by omega)
  refine jT_fR [0, 1, 2, 3, 4, 5, 6, 7, 8, 9, 10, 11, 12, 13, 14, 15] 16 (y := 245) (pcN := 8) (dC := 0) (bc1 := 0) (bc2 := 0) (c1 := 0) (c2 := 0) (as := [(4, 0), (0, 0)]) (asC := [(4, 0), (0, 0)]) (LN := [(0, (4, 0)), (1, (0, 0)), (2, (0, 0))]) (stN := [(1, 0), (1, 0)]) (hsC := jpA_1519) (v := (0, 1)) (st2 := [(0, 1), (1, 0), (1, 0)]) (jA_245_339 (d := 0)) (by rfl) (by rfl) (by decide +kernel) (by rfl) (by rfl) (by omega) (by omega) (by omega) (by omega) rfl ?_
  refine jT_advK 3 (pcN := 11) (LN := [(0, (4, 0)), (1, (0, 0)), (2, (0, 0))]) (stN := [(1, 0), (1, 0), (1, 0)]) (hsN := jpA_1519) (c1 := 0) (s1 := 0) (c2 := 0) (s2 := 0) (by decide +kernel) ?_ (by omega) (by omega)
  refine jT_fR [] 16 (y := 189) (pcN := 14) (dC := 0) (bc1 := 0) (bc2 := 0) (c1 := 0) (c2 := 0) (as := [(1, 0), (1, 0), (1, 0)]) (asC := [(1, 0), (1, 0), (1, 0)]) (LN := [(0, (4, 0)), (1, (0, 0)), (2, (0, 0))]) (stN := []) (hsC := []) (v := (0, 1)) (st2 := [(0, 1)]) (jA_189_448 (d := 0)) (by rfl) (by rfl) (by decide +kernel) (by rfl) (by rfl) (by omega) (by omega) (by omega) (by omega) rfl ?_
  exact jT_ret rfl (by decide) (by show 16 ≤ 16; decide) (by omega) (by omega) ⟨rfl, rfl, rfl⟩
theorem jA_204_450 {xs : List Int} {d : Nat} : jT xs (d + 2) 204 16 0 [(0, (4, 0)), (1, (4, 1)), (2, (0, 57)), (3, (1, (-1)))] [] jpA_130 0 0 (fun k v hsN => k = 0 ∧ v = (9, 0) ∧ hsN = jpA_130 ++ []) := by
  refine jT_advK 4 (pcN := 5) (LN := [(0, (4, 0)), (1, (4, 1)), (2, (0, 57)), (3, (1, (-1)))]) (stN := [(0, 63), (4, 1)]) (hsN := jpA_130) (c1 := 0) (s1 := 0) (c2 := 0) (s2 := 0) (by decide +kernel) ?_ (by omega) (by omega)
  refine jT_iald (x := 1) (a := 1) (j := 63) (fs := []) (X := jS0) (by rfl) (by rfl) (by rfl) (by rfl) (by decide +kernel) ?_
  refine jT_eq (LN := [(0, (4, 0)), (1, (4, 1)), (2, (0, 57)), (3, (1, (-1)))]) (stN := [(0, 1)]) (hsN := jpA_130) rfl rfl rfl ?_
  refine jT_advK 7 (pcN := 19) (LN := [(5, (1, 1)), (0, (4, 0)), (1, (4, 1)), (2, (0, 57)), (3, (1, (-1)))]) (stN := [(1, 1), (1, 1), (1, 1)]) (hsN := jpA_130) (c1 := 0) (s1 := 0) (c2 := 0) (s2 := 0) (by decide +kernel) ?_ (by omega) (by omega)
  refine jT_fR [] 16 (y := 194) (pcN := 22) (dC := 1) (bc1 := 0) (bc2 := 0) (c1 := 0) (c2 := 0) (as := [(1, 1), (1, 1)]) (asC := [(1, 1), (1, 1)]) (LN := [(5, (1, 1)), (0, (4, 0)), (1, (4, 1)), (2, (0, 57)), (3, (1, (-1)))]) (stN := [(1, 1)]) (hsC := []) (v := (1, 1)) (st2 := [(1, 1), (1, 1)]) (jA_194_43 (d := 0)) (by rfl) (by rfl) (by decide +kernel) (by rfl) (by rfl) (by omega) (by omega) (by omega) (by omega) rfl ?_
  refine jT_advK 26 (pcN := 65) (LN := [(9, (0, 0)), (7, (1, 1)), (5, (1, 1)), (0, (4, 0)), (1, (4, 1)), (2, (0, 57)), (3, (1, (-1)))]) (stN := [(0, 57), (4, 1), (1, (-1)), (1, 0), (0, 0), (4, 7)]) (hsN := jpA_130) (c1 := 0) (s1 := 0) (c2 := 0) (s2 := 0) (by decide +kernel) ?_ (by omega) (by omega)
  refine jT_iald (x := 0) (a := 1) (j := 57) (fs := []) (X := jS0) (by rfl) (by rfl) (by rfl) (by rfl) (by decide +kernel) ?_
  refine jT_eq (LN := [(9, (0, 0)), (7, (1, 1)), (5, (1, 1)), (0, (4, 0)), (1, (4, 1)), (2, (0, 57)), (3, (1, (-1)))]) (stN := [(0, 0), (1, (-1)), (1, 0), (0, 0), (4, 7)]) (hsN := jpA_130) rfl rfl rfl ?_
  refine jT_advK 30 (pcN := 65) (LN := [(9, (0, 1)), (7, (1, 1)), (5, (1, 1)), (0, (4, 0)), (1, (4, 1)), (2, (0, 57)), (3, (1, (-1)))]) (stN := [(0, 58), (4, 1), (1, (-1)), (1, 0), (0, 1), (4, 7)]) (hsN := jpA_130) (c1 := 0) (s1 := 0) (c2 := 0) (s2 := 0) (by decide +kernel) ?_ (by omega) (by omega)
  refine jT_iald (x := 0) (a := 1) (j := 58) (fs := []) (X := jS0) (by rfl) (by rfl) (by rfl) (by rfl) (by decide +kernel) ?_
  refine jT_eq (LN := [(9, (0, 1)), (7, (1, 1)), (5, (1, 1)), (0, (4, 0)), (1, (4, 1)), (2, (0, 57)), (3, (1, (-1)))]) (stN := [(0, 0), (1, (-1)), (1, 0), (0, 1), (4, 7)]) (hsN := jpA_130) rfl rfl rfl ?_
  refine jT_advK 30 (pcN := 65) (LN := [(9, (0, 2)), (7, (1, 1)), (5, (1, 1)), (0, (4, 0)), (1, (4, 1)), (2, (0, 57)), (3, (1, (-1)))]) (stN := [(0, 59), (4, 1), (1, (-1)), (1, 0), (0, 2), (4, 7)]) (hsN := jpA_130) (c1 := 0) (s1 := 0) (c2 := 0) (s2 := 0) (by decide +kernel) ?_ (by omega) (by omega)
  refine jT_iald (x := 0) (a := 1) (j := 59) (fs := []) (X := jS0) (by rfl) (by rfl) (by rfl) (by rfl) (by decide +kernel) ?_
  refine jT_eq (LN := [(9, (0, 2)), (7, (1, 1)), (5, (1, 1)), (0, (4, 0)), (1, (4, 1)), (2, (0, 57)), (3, (1, (-1)))]) (stN := [(0, 0), (1, (-1)), (1, 0), (0, 2), (4, 7)]) (hsN := jpA_130) rfl rfl rfl ?_
  refine jT_advK 30 (pcN := 65) (LN := [(9, (0, 3)), (7, (1, 1)), (5, (1, 1)), (0, (4, 0)), (1, (4, 1)), (2, (0, 57)), (3, (1, (-1)))]) (stN := [(0, 60), (4, 1), (1, (-1)), (1, 0), (0, 3), (4, 7)]) (hsN := jpA_130) (c1 := 0) (s1 := 0) (c2 := 0) (s2 := 0) (by decide +kernel) ?_ (by omega) (by omega)
  refine jT_iald (x := 0) (a := 1) (j := 60) (fs := []) (X := jS0) (by rfl) (by rfl) (by rfl) (by rfl) (by decide +kernel) ?_
  refine jT_eq (LN := [(9, (0, 3)), (7, (1, 1)), (5, (1, 1)), (0, (4, 0)), (1, (4, 1)), (2, (0, 57)), (3, (1, (-1)))]) (stN := [(0, 0), (1, (-1)), (1, 0), (0, 3), (4, 7)]) (hsN := jpA_130) rfl rfl rfl ?_
  refine jT_advK 30 (pcN := 65) (LN := [(9, (0, 4)), (7, (1, 1)), (5, (1, 1)), (0, (4, 0)), (1, (4, 1)), (2, (0, 57)), (3, (1, (-1)))]) (stN := [(0, 61), (4, 1), (1, (-1)), (1, 0), (0, 4), (4, 7)]) (hsN := jpA_130) (c1 := 0) (s1 := 0) (c2 := 0) (s2 := 0) (by decide +kernel) ?_ (by omega) (by omega)
  refine jT_iald (x := 0) (a := 1) (j := 61) (fs := []) (X := jS0) (by rfl) (by rfl) (by rfl) (by rfl) (by decide +kernel) ?_
  refine jT_eq (LN := [(9, (0, 4)), (7, (1, 1)), (5, (1, 1)), (0, (4, 0)), (1, (4, 1)), (2, (0, 57)), (3, (1, (-1)))]) (stN := [(0, 0), (1, (-1)), (1, 0), (0, 4), (4, 7)]) (hsN := jpA_130) rfl rfl rfl ?_
  refine jT_advK 30 (pcN := 65) (LN := [(9, (0, 5)), (7, (1, 1)), (5, (1, 1)), (0, (4, 0)), (1, (4, 1)), (2, (0, 57)), (3, (1, (-1)))]) (stN := [(0, 62), (4, 1), (1, (-1)), (1, 0), (0, 5), (4, 7)]) (hsN := jpA_130) (c1 := 0) (s1 := 0) (c2 := 0) (s2 := 0) (by decide +kernel) ?_ (by omega) (by omega)
  refine jT_iald (x := 0) (a := 1) (j := 62) (fs := []) (X := jS0) (by rfl) (by rfl) (by rfl) (by rfl) (by decide +kernel) ?_
  refine jT_eq (LN := [(9, (0, 5)), (7, (1, 1)), (5, (1, 1)), (0, (4, 0)), (1, (4, 1)), (2, (0, 57)), (3, (1, (-1)))]) (stN := [(0, 0), (1, (-1)), (1, 0), (0, 5), (4, 7)]) (hsN := jpA_130) rfl rfl rfl ?_
  refine jT_advK 17 (pcN := 89) (LN := [(9, (0, 6)), (7, (1, 1)), (5, (1, 1)), (0, (4, 0)), (1, (4, 1)), (2, (0, 57)), (3, (1, (-1)))]) (stN := [(4, 0)]) (hsN := jpA_130) (c1 := 0) (s1 := 0) (c2 := 0) (s2 := 0) (by decide +kernel) ?_ (by omega) (by omega)
  refine jT_fR [0, 1, 2, 3, 4, 5, 6, 7, 8, 9, 10, 11, 12, 13, 14, 15] 16 (y := 199) (pcN := 92) (dC := 1) (bc1 := 0) (bc2 := 0) (c1 := 0) (c2 := 0) (as := [(4, 0)]) (asC := [(4, 0)]) (LN := [(9, (0, 6)), (7, (1, 1)), (5, (1, 1)), (0, (4, 0)), (1, (4, 1)), (2, (0, 57)), (3, (1, (-1)))]) (stN := []) (hsC := jpA_147) (v := (9, 0)) (st2 := []) (jA_199_45 (d := 0)) (by rfl) (by rfl) (by decide +kernel) (by rfl) (by rfl) (by omega) (by omega) (by omega) (by omega) rfl ?_
  exact jT_ret rfl (by decide) (by show 16 ≤ 16; decide) (by omega) (by omega) ⟨rfl, rfl, rfl⟩
def jpA_1840 : List JC := [jzA_21, (100, [], jS0), jgh, jgh, jgh, jgh, jgh, (101, [], [0, 0, 0, 0, 0, 0]), (100, [], (List.replicate 1792 0)), jgh, jgh, jgh, jgh, jgh, jgh, jgh]
def jpA_1841 : List JC := [jzA_1543, (100, [], jS0), jgh, jgh, jgh, jgh, jgh, (101, [], [0, 0, 0, 0, 0, 0]), jzA_1539, jgh, jgh, jgh, jgh, jgh, jgh, jgh]
theorem jA_248_451 {xs : List Int} {d : Nat} : jT xs (d + 3) 248 16 0 [(0, (4, 0)), (1, (0, 0)), (2, (0, 0))] [] jpA_1840 0 0 (fun k v hsN => k = 0 ∧ v = (0, 1) ∧ hsN = jpA_1841) := by
  refine jT_advK 10 (pcN := 14) (LN := [(4, (0, 0)), (3, (0, 1)), (0, (4, 0)), (1, (0, 0)), (2, (0, 0))]) (stN := [(0, 0), (4, 0), (0, 0)]) (hsN := jpA_1840) (c1 := 0) (s1 := 0) (c2 := 0) (s2 := 0) (by decide +kernel) ?_ (by omega) (by omega)
  refine jT_fR [0, 1, 2, 3, 4, 5, 6, 7, 8, 9, 10, 11, 12, 13, 14, 15] 16 (y := 245) (pcN := 17) (dC := 0) (bc1 := 0) (bc2 := 0) (c1 := 0) (c2 := 0) (as := [(4, 0), (0, 0)]) (asC := [(4, 0), (0, 0)]) (LN := [(4, (0, 0)), (3, (0, 1)), (0, (4, 0)), (1, (0, 0)), (2, (0, 0))]) (stN := [(0, 0)]) (hsC := jpA_1519) (v := (0, 1)) (st2 := [(0, 1), (0, 0)]) (jA_245_339 (d := 0)) (by rfl) (by rfl) (by decide +kernel) (by rfl) (by rfl) (by omega) (by omega) (by omega) (by omega) rfl ?_
  refine jT_advK 6 (pcN := 28) (LN := [(4, (0, 0)), (3, (0, 1)), (0, (4, 0)), (1, (0, 0)), (2, (0, 0))]) (stN := [(0, 0), (0, 0), (4, 1), (4, 0)]) (hsN := jpA_1840) (c1 := 0) (s1 := 0) (c2 := 0) (s2 := 0) (by decide +kernel) ?_ (by omega) (by omega)
  refine jT_fR [] 16 (y := 242) (pcN := 31) (dC := 0) (bc1 := 0) (bc2 := 0) (c1 := 0) (c2 := 0) (as := [(0, 0), (0, 0)]) (asC := [(0, 0), (0, 0)]) (LN := [(4, (0, 0)), (3, (0, 1)), (0, (4, 0)), (1, (0, 0)), (2, (0, 0))]) (stN := [(4, 1), (4, 0)]) (hsC := []) (v := (0, 57)) (st2 := [(0, 57), (4, 1), (4, 0)]) (jA_242_340 (d := 0)) (by rfl) (by rfl) (by decide +kernel) (by rfl) (by rfl) (by omega) (by omega) (by omega) (by omega) rfl ?_
  refine jT_fR [0, 1, 2, 3, 4, 5, 6, 7, 8, 9, 10, 11, 12, 13, 14, 15] 16 (y := 203) (pcN := 34) (dC := 0) (bc1 := 0) (bc2 := 0) (c1 := 0) (c2 := 0) (as := [(4, 0), (4, 1), (0, 57)]) (asC := [(4, 0), (4, 1), (0, 57)]) (LN := [(4, (0, 0)), (3, (0, 1)), (0, (4, 0)), (1, (0, 0)), (2, (0, 0))]) (stN := []) (hsC := jpA_130) (v := (9, 0)) (st2 := []) (jA_203_344 (d := 0)) (by rfl) (by rfl) (by decide +kernel) (by rfl) (by rfl) (by omega) (by omega) (by omega) (by omega) rfl ?_
  refine jT_advK 5 (pcN := 41) (LN := [(4, (0, 0)), (3, (0, 1)), (0, (4, 0)), (1, (0, 0)), (2, (0, 0))]) (stN := [(0, 0), (0, 0), (4, 1), (4, 0)]) (hsN := jpA_1840) (c1 := 0) (s1 := 0) (c2 := 0) (s2 := 0) (by decide +kernel) ?_ (by omega) (by omega)
  refine jT_fR [] 16 (y := 242) (pcN := 44) (dC := 0) (bc1 := 0) (bc2 := 0) (c1 := 0) (c2 := 0) (as := [(0, 0), (0, 0)]) (asC := [(0, 0), (0, 0)]) (LN := [(4, (0, 0)), (3, (0, 1)), (0, (4, 0)), (1, (0, 0)), (2, (0, 0))]) (stN := [(4, 1), (4, 0)]) (hsC := []) (v := (0, 57)) (st2 := [(0, 57), (4, 1), (4, 0)]) (jA_242_340 (d := 0)) (by rfl) (by rfl) (by decide +kernel) (by rfl) (by rfl) (by omega) (by omega) (by omega) (by omega) rfl ?_
  refine jT_advK 1 (pcN := 47) (LN := [(4, (0, 0)), (3, (0, 1)), (0, (4, 0)), (1, (0, 0)), (2, (0, 0))]) (stN := [(1, (-1)), (0, 57), (4, 1), (4, 0)]) (hsN := jpA_1840) (c1 := 0) (s1 := 0) (c2 := 0) (s2 := 0) (by decide +kernel) ?_ (by omega) (by omega)
  refine jT_fR [0, 1, 2, 3, 4, 5, 6, 7, 8, 9, 10, 11, 12, 13, 14, 15] 16 (y := 204) (pcN := 50) (dC := 2) (bc1 := 0) (bc2 := 0) (c1 := 0) (c2 := 0) (as := [(4, 0), (4, 1), (0, 57), (1, (-1))]) (asC := [(4, 0), (4, 1), (0, 57), (1, (-1))]) (LN := [(4, (0, 0)), (3, (0, 1)), (0, (4, 0)), (1, (0, 0)), (2, (0, 0))]) (stN := []) (hsC := jpA_130) (v := (9, 0)) (st2 := []) (jA_204_450 (d := 0)) (by rfl) (by rfl) (by decide +kernel) (by rfl) (by rfl) (by omega) (by omega) (by omega) (by omega) rfl ?_
  refine jT_advK 6 (pcN := 74) (LN := [(4, (0, 0)), (3, (0, 1)), (0, (4, 0)), (1, (0, 0)), (2, (0, 0))]) (stN := [(4, 0)]) (hsN := jpA_1840) (c1 := 0) (s1 := 0) (c2 := 0) (s2 := 0) (by decide +kernel) ?_ (by omega) (by omega)
  refine jT_fR [0, 1, 2, 3, 4, 5, 6, 7, 8, 9, 10, 11, 12, 13, 14, 15] 16 (y := 205) (pcN := 77) (dC := 1) (bc1 := 0) (bc2 := 0) (c1 := 0) (c2 := 0) (as := [(4, 0)]) (asC := [(4, 0)]) (LN := [(4, (0, 0)), (3, (0, 1)), (0, (4, 0)), (1, (0, 0)), (2, (0, 0))]) (stN := []) (hsC := jpA_147) (v := (0, 1)) (st2 := [(0, 1)]) (jA_205_48 (d := 0)) (by rfl) (by rfl) (by decide +kernel) (by rfl) (by rfl) (by omega) (by omega) (by omega) (by omega) rfl ?_
  refine jT_advK 7 (pcN := 91) (LN := [(3, (0, 1)), (4, (0, 0)), (0, (4, 0)), (1, (0, 0)), (2, (0, 0))]) (stN := [(4, 0)]) (hsN := jpA_1840) (c1 := 0) (s1 := 0) (c2 := 0) (s2 := 0) (by decide +kernel) ?_ (by omega) (by omega)
  refine jT_fB [0, 1, 2, 3, 4, 5, 6, 7, 8, 9, 10, 11, 12, 13, 14, 15] 16 (y := 239) (pcN := 94) (dC := 1) (bc1 := 0) (bc2 := 0) (c1 := 0) (c2 := 0) (as := [(4, 0)]) (asC := [(4, 0)]) (LN := [(3, (0, 1)), (4, (0, 0)), (0, (4, 0)), (1, (0, 0)), (2, (0, 0))]) (stN := []) (hsC := jpA_1541) (hsD := jpA_1544) (v := (9, 0)) (st2 := []) (hs2 := jpA_1841) (jA_239_346 (d := 0)) (by rfl) (by rfl) (by decide +kernel) (by rfl) (by rfl) (by omega) (by omega) (by omega) (by omega) rfl (by decide +kernel) ?_
  refine jT_advK 5 (pcN := 14) (LN := [(4, (0, 1)), (3, (0, 1)), (0, (4, 0)), (1, (0, 0)), (2, (0, 0))]) (stN := [(0, 0), (4, 0), (0, 1)]) (hsN := jpA_1841) (c1 := 0) (s1 := 0) (c2 := 0) (s2 := 0) (by decide +kernel) ?_ (by omega) (by omega)
  refine jT_fR [0, 1, 2, 3, 4, 5, 6, 7, 8, 9, 10, 11, 12, 13, 14, 15] 16 (y := 245) (pcN := 17) (dC := 0) (bc1 := 0) (bc2 := 0) (c1 := 0) (c2 := 0) (as := [(4, 0), (0, 0)]) (asC := [(4, 0), (0, 0)]) (LN := [(4, (0, 1)), (3, (0, 1)), (0, (4, 0)), (1, (0, 0)), (2, (0, 0))]) (stN := [(0, 1)]) (hsC := jpA_1545) (v := (0, 1)) (st2 := [(0, 1), (0, 1)]) (jA_245_347 (d := 0)) (by rfl) (by rfl) (by decide +kernel) (by rfl) (by rfl) (by omega) (by omega) (by omega) (by omega) rfl ?_
  refine jT_advK 2 (pcN := 101) (LN := [(4, (0, 1)), (3, (0, 1)), (0, (4, 0)), (1, (0, 0)), (2, (0, 0))]) (stN := [(0, 1)]) (hsN := jpA_1841) (c1 := 0) (s1 := 0) (c2 := 0) (s2 := 0) (by decide +kernel) ?_ (by omega) (by omega)
  exact jT_ret rfl (by decide) (by show 16 ≤ 16; decide) (by omega) (by omega) ⟨rfl, rfl, rfl⟩
def jpA_1842 : List JC := [jzA_21, (100, [], jS0), (100, [], []), jzA_196, jzA_197, jgh, jgh, (101, [], [0, 0, 0, 0, 0, 0]), (100, [], (List.replicate 1792 0)), jgh, jgh, jgh, jgh, jgh, jgh, jgh, (100, [], (List.replicate 1613 0)), jgh, jgh, jgh, jgh, jgh, jgh, jgh]
def jpA_1843 : List JC := [jzA_1543, (100, [], jS0), (100, [], []), jzA_196, jzA_197, jgh, jgh, (101, [], [0, 0, 0, 0, 0, 0]), jzA_1539, jgh, jgh, jgh, jgh, jgh, jgh, jgh, (100, [], (List.replicate 1613 0)), jgh, jgh, jgh, jgh, jgh, jgh, jgh]
def jpA_1844 : List JC := [jzA_1556, jzA_1561, (100, [], []), jzA_196, jzA_201, jgh, jgh, (101, [], [0, 0, 0, 0, 0, 0]), jzA_1539, jgh, jgh, jgh, jgh, jgh, jgh, jgh, (100, [], jS0), jgh, jgh, jgh, jgh, jgh, jgh, jgh]
theorem jA_246_452 {xs : List Int} {d : Nat} : jT xs (d + 4) 246 24 0 [(0, (4, 0)), (1, (0, 0)), (2, (0, 0))] [] jpA_1842 0 0 (fun k v hsN => k = 0 ∧ v = (0, 1) ∧ hsN = jpA_1844) := by
  refine jT_advK 2 (pcN := 2) (LN := [(0, (4, 0)), (1, (0, 0)), (2, (0, 0))]) (stN := [(0, 0), (4, 0)]) (hsN := jpA_1842) (c1 := 0) (s1 := 0) (c2 := 0) (s2 := 0) (by decide +kernel) ?_ (by omega) (by omega)
  refine jT_fR [] 24 (y := 238) (pcN := 5) (dC := 1) (bc1 := 0) (bc2 := 0) (c1 := 0) (c2 := 0) (as := [(0, 0)]) (asC := [(0, 0)]) (LN := [(0, (4, 0)), (1, (0, 0)), (2, (0, 0))]) (stN := [(4, 0)]) (hsC := []) (v := (0, 1)) (st2 := [(0, 1), (4, 0)]) (jA_238_338 (d := 0)) (by rfl) (by rfl) (by decide +kernel) (by rfl) (by rfl) (by omega) (by omega) (by omega) (by omega) rfl ?_
  refine jT_fR [0, 1, 2, 3, 4, 5, 6, 7, 8, 9, 10, 11, 12, 13, 14, 15] 24 (y := 190) (pcN := 8) (dC := 1) (bc1 := 0) (bc2 := 0) (c1 := 0) (c2 := 0) (as := [(4, 0), (0, 1)]) (asC := [(4, 0), (0, 1)]) (LN := [(0, (4, 0)), (1, (0, 0)), (2, (0, 0))]) (stN := []) (hsC := jpA_22) (v := (0, 0)) (st2 := [(0, 0)]) (jA_190_39 (d := 0)) (by rfl) (by rfl) (by decide +kernel) (by rfl) (by rfl) (by omega) (by omega) (by omega) (by omega) rfl ?_
  refine jT_advK 5 (pcN := 15) (LN := [(0, (4, 0)), (1, (0, 0)), (2, (0, 0))]) (stN := [(0, 0), (0, 0), (4, 0), (4, 0)]) (hsN := jpA_1842) (c1 := 0) (s1 := 0) (c2 := 0) (s2 := 0) (by decide +kernel) ?_ (by omega) (by omega)
  refine jT_fR [0, 1, 2, 3, 4, 5, 6, 7, 8, 9, 10, 11, 12, 13, 14, 15] 24 (y := 247) (pcN := 18) (dC := 1) (bc1 := 0) (bc2 := 0) (c1 := 0) (c2 := 0) (as := [(4, 0), (0, 0), (0, 0)]) (asC := [(4, 0), (0, 0), (0, 0)]) (LN := [(0, (4, 0)), (1, (0, 0)), (2, (0, 0))]) (stN := [(4, 0)]) (hsC := jpA_1519) (v := (0, 1)) (st2 := [(0, 1), (4, 0)]) (jA_247_449 (d := 0)) (by rfl) (by rfl) (by decide +kernel) (by rfl) (by rfl) (by omega) (by omega) (by omega) (by omega) rfl ?_
  refine jT_advK 1 (pcN := 19) (LN := [(0, (4, 0)), (1, (0, 0)), (2, (0, 0))]) (stN := [(0, 1), (0, 1), (4, 0)]) (hsN := jpA_1842) (c1 := 0) (s1 := 0) (c2 := 0) (s2 := 0) (by decide +kernel) ?_ (by omega) (by omega)
  refine jT_fR [0] 24 (y := 191) (pcN := 22) (dC := 0) (bc1 := 0) (bc2 := 0) (c1 := 0) (c2 := 0) (as := [(4, 0), (0, 1), (0, 1)]) (asC := [(4, 0), (0, 1), (0, 1)]) (LN := [(0, (4, 0)), (1, (0, 0)), (2, (0, 0))]) (stN := []) (hsC := [jgh]) (v := (0, 0)) (st2 := [(0, 0)]) (jA_191_38 (d := 0)) (by rfl) (by rfl) (by decide +kernel) (by rfl) (by rfl) (by omega) (by omega) (by omega) (by omega) rfl ?_
  refine jT_advK 5 (pcN := 29) (LN := [(0, (4, 0)), (1, (0, 0)), (2, (0, 0))]) (stN := [(0, 0), (0, 0), (4, 0), (4, 0)]) (hsN := jpA_1842) (c1 := 0) (s1 := 0) (c2 := 0) (s2 := 0) (by decide +kernel) ?_ (by omega) (by omega)
  refine jT_fB [0, 1, 2, 3, 4, 5, 6, 7, 8, 9, 10, 11, 12, 13, 14, 15] 24 (y := 248) (pcN := 32) (dC := 3) (bc1 := 0) (bc2 := 0) (c1 := 0) (c2 := 0) (as := [(4, 0), (0, 0), (0, 0)]) (asC := [(4, 0), (0, 0), (0, 0)]) (LN := [(0, (4, 0)), (1, (0, 0)), (2, (0, 0))]) (stN := [(4, 0)]) (hsC := jpA_1840) (hsD := jpA_1841) (v := (0, 1)) (st2 := [(0, 1), (4, 0)]) (hs2 := jpA_1843) (jA_248_451 (d := 0)) (by rfl) (by rfl) (by decide +kernel) (by rfl) (by rfl) (by omega) (by omega) (by omega) (by omega) rfl (by decide +kernel) ?_
  refine jT_advK 1 (pcN := 33) (LN := [(0, (4, 0)), (1, (0, 0)), (2, (0, 0))]) (stN := [(0, 2), (0, 1), (4, 0)]) (hsN := jpA_1843) (c1 := 0) (s1 := 0) (c2 := 0) (s2 := 0) (by decide +kernel) ?_ (by omega) (by omega)
  refine jT_fR [0] 24 (y := 191) (pcN := 36) (dC := 0) (bc1 := 0) (bc2 := 0) (c1 := 0) (c2 := 0) (as := [(4, 0), (0, 1), (0, 2)]) (asC := [(4, 0), (0, 1), (0, 2)]) (LN := [(0, (4, 0)), (1, (0, 0)), (2, (0, 0))]) (stN := []) (hsC := [jgh]) (v := (0, 0)) (st2 := [(0, 0)]) (jA_191_49 (d := 0)) (by rfl) (by rfl) (by decide +kernel) (by rfl) (by rfl) (by omega) (by omega) (by omega) (by omega) rfl ?_
  refine jT_advK 3 (pcN := 43) (LN := [(0, (4, 0)), (1, (0, 0)), (2, (0, 0))]) (stN := [(0, 0), (4, 0)]) (hsN := jpA_1843) (c1 := 0) (s1 := 0) (c2 := 0) (s2 := 0) (by decide +kernel) ?_ (by omega) (by omega)
  refine jT_fB [0, 1, 2, 3, 4, 5, 6, 7, 8, 9, 10, 11, 12, 13, 14, 15, 16, 17, 18, 19, 20, 21, 22, 23] 24 (y := 241) (pcN := 46) (dC := 1) (bc1 := 0) (bc2 := 0) (c1 := 0) (c2 := 0) (as := [(4, 0), (0, 0)]) (asC := [(4, 0), (0, 0)]) (LN := [(0, (4, 0)), (1, (0, 0)), (2, (0, 0))]) (stN := []) (hsC := jpA_1558) (hsD := jpA_1562) (v := (0, 1)) (st2 := [(0, 1)]) (hs2 := jpA_1844) (jA_241_353 (d := 0)) (by rfl) (by rfl) (by decide +kernel) (by rfl) (by rfl) (by omega) (by omega) (by omega) (by omega) rfl (by decide +kernel) ?_
  exact jT_ret rfl (by decide) (by show 24 ≤ 24; decide) (by omega) (by omega) ⟨rfl, rfl, rfl⟩
theorem jA_115_453 {xs : List Int} {d : Nat} {x2 : Int} (h_x2 : 1 ≤ x2 ∧ x2 ≤ 2147483647) : jT xs d 115 1 0 [(0, (4, 0)), (1, (0, x2)), (2, (0, 1))] [] [jgh] 1 6 (fun k v hsN => k = 1 ∧ v = (0, 0) ∧ hsN = [jgh] ++ []) := by
  refine jT_xiload_n (v := (0, x2)) (pcN := 1) jI_115_0 rfl rfl rfl ?_
  refine jT_ifF (a := x2) (t := 9) (by rfl) (by rfl) (by rfl) (jw_idd (by omega) (by omega)) (by simp only [jcP] <;> omega) ?_
  refine jT_xiload_n (v := (0, x2)) (pcN := 5) jI_115_4 rfl rfl rfl ?_
  refine jT_xiload_n (v := (0, 1)) (pcN := 6) jI_115_5 rfl rfl rfl ?_
  refine jT_icF (a := x2) (b := 1) (t := 20) (by rfl) (by rfl) (by rfl) (jw_idd (by omega) (by omega)) (jw_idd (by omega) (by omega)) (by simp only [jcP] <;> omega) ?_
  exact jT_ret (c1 := 1) (s1 := 6) rfl (by decide) (by show 1 ≤ 1; decide) (by omega) (by omega) ⟨rfl, rfl, rfl⟩
theorem jA_129_454 {xs : List Int} {d : Nat} {x2 : Int} (h_x2 : 1 ≤ x2 ∧ x2 ≤ 2147483647) : jT xs (d + 1) 129 23 0 [(0, (4, 0)), (1, (0, 0)), (2, (0, x2))] [] jpA_1805 1 6 (fun k v hsN => k = 1 ∧ v = (0, 0) ∧ hsN = jpA_1805 ++ []) := by
  refine jT_xaload_n (v := (4, 0)) (pcN := 1) jI_129_0 rfl rfl rfl ?_
  refine jT_xiload_n (v := (0, 0)) (pcN := 2) jI_129_1 rfl rfl rfl ?_
  refine jT_xiconst (k := 4) (pcN := 3) jI_129_2 rfl ?_
  refine jT_fR [0] 23 (y := 115) (pcN := 6) (dC := 0) (bc1 := 0) (bc2 := 0) (c1 := 1) (c2 := 6) (as := [(4, 0), (0, 0), (0, 4)]) (asC := [(4, 0), (0, 0), (0, 4)]) (LN := [(0, (4, 0)), (1, (0, 0)), (2, (0, x2))]) (stN := []) (hsC := [jgh]) (v := (9, 0)) (st2 := []) (jA_115_321 (d := 0)) (by rfl) (by rfl) (by decide +kernel) (by rfl) (by rfl) (by omega) (by omega) (by omega) (by omega) rfl ?_
  refine jT_xaload_n (v := (4, 0)) (pcN := 7) jI_129_6 rfl rfl rfl ?_
  refine jT_xgetf (a := 0) (t := 1) (ci := 13) (fi := 11) (c := jzA_5) (v := (4, 11)) (pcN := 10) jI_129_7 rfl rfl rfl rfl rfl rfl rfl ?_
  refine jT_xiload_n (v := (0, 0)) (pcN := 11) jI_129_10 rfl rfl rfl ?_
  refine jT_fR [11, 12, 13, 14, 15, 16, 17, 18, 19, 20] 23 (y := 56) (pcN := 14) (dC := 0) (bc1 := 0) (bc2 := 0) (c1 := 1) (c2 := 6) (as := [(4, 11), (0, 0)]) (asC := [(4, 0), (0, 0)]) (LN := [(0, (4, 0)), (1, (0, 0)), (2, (0, x2))]) (stN := []) (hsC := jpA_1446) (v := (4, 6)) (st2 := [(4, 17)]) (jA_56_322 (d := 0)) (by rfl) (by rfl) (by decide +kernel) (by rfl) (by rfl) (by omega) (by omega) (by omega) (by omega) rfl ?_
  refine jT_xastore_n (v := (4, 17)) (LN := [(3, (4, 17)), (0, (4, 0)), (1, (0, 0)), (2, (0, x2))]) (pcN := 15) jI_129_14 rfl rfl rfl rfl ?_
  refine jT_xaload_n (v := (4, 0)) (pcN := 16) jI_129_15 rfl rfl rfl ?_
  refine jT_xiload_n (v := (0, x2)) (pcN := 17) jI_129_16 rfl rfl rfl ?_
  refine jT_xaload_n (v := (4, 17)) (pcN := 18) jI_129_17 rfl rfl rfl ?_
  refine jT_fR [17, 21, 22] 23 (y := 29) (pcN := 21) (dC := 0) (bc1 := 0) (bc2 := 0) (c1 := 1) (c2 := 6) (as := [(4, 17)]) (asC := [(4, 0)]) (LN := [(3, (4, 17)), (0, (4, 0)), (1, (0, 0)), (2, (0, x2))]) (stN := [(0, x2), (4, 0)]) (hsC := [(7, [(4, 1), (4, (-1)), (4, (-1))], []), (114, [], [2]), jgh]) (v := (0, 1)) (st2 := [(0, 1), (0, x2), (4, 0)]) (jA_29_416 (d := 0)) (by rfl) (by rfl) (by decide +kernel) (by rfl) (by rfl) (by omega) (by omega) (by omega) (by omega) rfl ?_
  exact jT_fX [0] 23 (y := 115) (pcN := 24) (dC := 0) (bc1 := 1) (bc2 := 6) (as := [(4, 0), (0, x2), (0, 1)]) (asC := [(4, 0), (0, x2), (0, 1)]) (LN := [(3, (4, 17)), (0, (4, 0)), (1, (0, 0)), (2, (0, x2))]) (stN := []) (hsC := [jgh]) (e := 0) (jA_115_453 (d := 0) (by omega)) (by rfl) (by rfl) (by decide +kernel) (by rfl) (by rfl) (by omega) (by omega) (by omega) (by omega) ⟨rfl, ⟨rfl, rfl, rfl⟩⟩
theorem jA_337_455 {xs : List Int} {d : Nat} {x2 : Int} (h_x2 : 1 ≤ x2 ∧ x2 ≤ 2147483647) : jT xs (d + 2) 337 24 0 [(0, (4, 0)), (1, (0, 0)), (2, (0, x2)), (3, (4, 1))] [] jpA_1806 1 6 (fun k v hsN => k = 0 ∧ v = (0, 1) ∧ hsN = jpA_1806 ++ []) := by
  refine jT_xaload_n (v := (4, 1)) (pcN := 1) jI_337_0 rfl rfl rfl ?_
  refine jT_xiconst (k := 0) (pcN := 2) jI_337_1 rfl ?_
  refine jT_xaload_n (v := (4, 0)) (pcN := 3) jI_337_2 rfl rfl rfl ?_
  refine jT_xiload_n (v := (0, 0)) (pcN := 4) jI_337_3 rfl rfl rfl ?_
  refine jT_xiload_n (v := (0, x2)) (pcN := 5) jI_337_4 rfl rfl rfl ?_
  exact jT_fX [0, 2, 3, 4, 5, 6, 7, 8, 9, 10, 11, 12, 13, 14, 15, 16, 17, 18, 19, 20, 21, 22, 23] 24 (y := 129) (pcN := 8) (dC := 1) (bc1 := 1) (bc2 := 6) (as := [(4, 0), (0, 0), (0, x2)]) (asC := [(4, 0), (0, 0), (0, x2)]) (LN := [(0, (4, 0)), (1, (0, 0)), (2, (0, x2)), (3, (4, 1))]) (stN := [(0, 0), (4, 1)]) (hsC := jpA_1805) (e := 0) (jA_129_454 (d := 0) (by omega)) (by rfl) (by rfl) (by decide +kernel) (by rfl) (by rfl) (by omega) (by omega) (by omega) (by omega) (show _ from ⟨rfl, rfl, rfl⟩)
theorem jA_247_456 {xs : List Int} {d : Nat} {x2 : Int} (h_x2 : 1 ≤ x2 ∧ x2 ≤ 2147483647) : jT xs (d + 1) 247 16 0 [(0, (4, 0)), (1, (0, 0)), (2, (0, x2))] [] jpA_1519 0 0 (fun k v hsN => k = 0 ∧ v = (0, 0) ∧ hsN = jpA_1519 ++ []) := by
  refine jT_xiload_n (v := (0, x2)) (pcN := 1) jI_247_0 rfl rfl rfl ?_
  refine jT_xi2l (x := x2) (z := x2) (pcN := 2) jI_247_1 rfl (jw_idd (by omega) (by omega)) rfl ?_
  refine jT_xlconst (z := 0) (pcN := 3) jI_247_2 rfl rfl ?_
  refine jT_xaload_n (v := (4, 0)) (pcN := 4) jI_247_3 rfl rfl rfl ?_
  refine jT_xiload_n (v := (0, 0)) (pcN := 5) jI_247_4 rfl rfl rfl ?_
  refine jT_fR [0, 1, 2, 3, 4, 5, 6, 7, 8, 9, 10, 11, 12, 13, 14, 15] 16 (y := 245) (pcN := 8) (dC := 0) (bc1 := 0) (bc2 := 0) (c1 := 0) (c2 := 0) (as := [(4, 0), (0, 0)]) (asC := [(4, 0), (0, 0)]) (LN := [(0, (4, 0)), (1, (0, 0)), (2, (0, x2))]) (stN := [(1, 0), (1, x2)]) (hsC := jpA_1519) (v := (0, 1)) (st2 := [(0, 1), (1, 0), (1, x2)]) (jA_245_339 (d := 0)) (by rfl) (by rfl) (by decide +kernel) (by rfl) (by rfl) (by omega) (by omega) (by omega) (by omega) rfl ?_
  refine jT_xiconst (k := 1) (pcN := 9) jI_247_8 rfl ?_
  refine jT_xisub (x := 1) (y := 1) (z := 0) (pcN := 10) jI_247_9 rfl (by decide) rfl ?_
  refine jT_xi2l (x := 0) (z := 0) (pcN := 11) jI_247_10 rfl (by decide +kernel) rfl ?_
  refine jT_fR [] 16 (y := 189) (pcN := 14) (dC := 0) (bc1 := 0) (bc2 := 0) (c1 := 0) (c2 := 0) (as := [(1, x2), (1, 0), (1, 0)]) (asC := [(1, x2), (1, 0), (1, 0)]) (LN := [(0, (4, 0)), (1, (0, 0)), (2, (0, x2))]) (stN := []) (hsC := []) (v := (0, 0)) (st2 := [(0, 0)]) (jT_in_hi (d := 0) (v := x2) (lo := 0) (hi := 0) (by omega) (by omega) (by omega) (by omega) (by omega)) (by rfl) (by rfl) (by decide +kernel) (by rfl) (by rfl) (by omega) (by omega) (by omega) (by omega) rfl ?_
  exact jT_ret rfl (by decide) (by show 16 ≤ 16; decide) (by omega) (by omega) ⟨rfl, rfl, rfl⟩
theorem jA_246_457 {xs : List Int} {d : Nat} {x2 : Int} (h_x2 : 1 ≤ x2 ∧ x2 ≤ 2147483647) : jT xs (d + 2) 246 16 0 [(0, (4, 0)), (1, (0, 0)), (2, (0, x2))] [] jpA_1519 0 0 (fun k v hsN => k = 0 ∧ v = (0, 0) ∧ hsN = jpA_1820) := by
  refine jT_xaload_n (v := (4, 0)) (pcN := 1) jI_246_0 rfl rfl rfl ?_
  refine jT_xiload_n (v := (0, 0)) (pcN := 2) jI_246_1 rfl rfl rfl ?_
  refine jT_fR [] 16 (y := 238) (pcN := 5) (dC := 1) (bc1 := 0) (bc2 := 0) (c1 := 0) (c2 := 0) (as := [(0, 0)]) (asC := [(0, 0)]) (LN := [(0, (4, 0)), (1, (0, 0)), (2, (0, x2))]) (stN := [(4, 0)]) (hsC := []) (v := (0, 1)) (st2 := [(0, 1), (4, 0)]) (jA_238_338 (d := 0)) (by rfl) (by rfl) (by decide +kernel) (by rfl) (by rfl) (by omega) (by omega) (by omega) (by omega) rfl ?_
  refine jT_fR [0, 1, 2, 3, 4, 5, 6, 7, 8, 9, 10, 11, 12, 13, 14, 15] 16 (y := 190) (pcN := 8) (dC := 1) (bc1 := 0) (bc2 := 0) (c1 := 0) (c2 := 0) (as := [(4, 0), (0, 1)]) (asC := [(4, 0), (0, 1)]) (LN := [(0, (4, 0)), (1, (0, 0)), (2, (0, x2))]) (stN := []) (hsC := jpA_22) (v := (0, 0)) (st2 := [(0, 0)]) (jA_190_39 (d := 0)) (by rfl) (by rfl) (by decide +kernel) (by rfl) (by rfl) (by omega) (by omega) (by omega) (by omega) rfl ?_
  refine jT_xifF (t := 39) (pcN := 11) jI_246_8 rfl (by decide +kernel) rfl rfl ?_
  refine jT_xaload_n (v := (4, 0)) (pcN := 12) jI_246_11 rfl rfl rfl ?_
  refine jT_xaload_n (v := (4, 0)) (pcN := 13) jI_246_12 rfl rfl rfl ?_
  refine jT_xiload_n (v := (0, 0)) (pcN := 14) jI_246_13 rfl rfl rfl ?_
  refine jT_xiload_n (v := (0, x2)) (pcN := 15) jI_246_14 rfl rfl rfl ?_
  refine jT_fR [0, 1, 2, 3, 4, 5, 6, 7, 8, 9, 10, 11, 12, 13, 14, 15] 16 (y := 247) (pcN := 18) (dC := 1) (bc1 := 0) (bc2 := 0) (c1 := 0) (c2 := 0) (as := [(4, 0), (0, 0), (0, x2)]) (asC := [(4, 0), (0, 0), (0, x2)]) (LN := [(0, (4, 0)), (1, (0, 0)), (2, (0, x2))]) (stN := [(4, 0)]) (hsC := jpA_1519) (v := (0, 0)) (st2 := [(0, 0), (4, 0)]) (jA_247_456 (d := 0) (by omega)) (by rfl) (by rfl) (by decide +kernel) (by rfl) (by rfl) (by omega) (by omega) (by omega) (by omega) rfl ?_
  refine jT_xiconst (k := 1) (pcN := 19) jI_246_18 rfl ?_
  refine jT_fB [0, 1, 2, 3, 4, 5, 6, 7, 8, 9, 10, 11, 12, 13, 14, 15] 16 (y := 191) (pcN := 22) (dC := 0) (bc1 := 0) (bc2 := 0) (c1 := 0) (c2 := 0) (as := [(4, 0), (0, 0), (0, 1)]) (asC := [(4, 0), (0, 0), (0, 1)]) (LN := [(0, (4, 0)), (1, (0, 0)), (2, (0, x2))]) (stN := []) (hsC := jpA_22) (hsD := jpA_20) (v := (0, 1)) (st2 := [(0, 1)]) (hs2 := jpA_1820) (jA_191_5 (d := 0)) (by rfl) (by rfl) (by decide +kernel) (by rfl) (by rfl) (by omega) (by omega) (by omega) (by omega) rfl (by decide +kernel) ?_
  refine jT_xifT (pcN := 39) jI_246_22 rfl (by decide +kernel) rfl ?_
  refine jT_xiconst (k := 0) (pcN := 40) jI_246_39 rfl ?_
  exact jT_ret rfl (by decide) (by show 16 ≤ 16; decide) (by omega) (by omega) ⟨rfl, rfl, rfl⟩
def jpA_1845 : List JC := [jzA_5, jgh, jgh, jgh, jgh, jgh, jgh, jgh, jgh, jgh, jgh, jzA_88, jgh, (117, [], [17, 18, 19, 20]), jgh, jgh, jgh, jgh, (7, [(4, 21), (4, (-1)), (4, (-1))], []), jgh, jgh, (114, [], [22]), jgh]
theorem jA_129_458 {xs : List Int} {d : Nat} {x2 : Int} (h_x2 : (-2147483648) ≤ x2 ∧ x2 ≤ (-1)) : jT xs (d + 1) 129 23 0 [(0, (4, 0)), (1, (0, 1)), (2, (0, x2))] [] jpA_1845 1 6 (fun k v hsN => k = 1 ∧ v = (0, 0) ∧ hsN = jpA_1845 ++ []) := by
  refine jT_xaload_n (v := (4, 0)) (pcN := 1) jI_129_0 rfl rfl rfl ?_
  refine jT_xiload_n (v := (0, 1)) (pcN := 2) jI_129_1 rfl rfl rfl ?_
  refine jT_xiconst (k := 4) (pcN := 3) jI_129_2 rfl ?_
  refine jT_fR [0] 23 (y := 115) (pcN := 6) (dC := 0) (bc1 := 0) (bc2 := 0) (c1 := 1) (c2 := 6) (as := [(4, 0), (0, 1), (0, 4)]) (asC := [(4, 0), (0, 1), (0, 4)]) (LN := [(0, (4, 0)), (1, (0, 1)), (2, (0, x2))]) (stN := []) (hsC := [jgh]) (v := (9, 0)) (st2 := []) (jA_115_356 (d := 0)) (by rfl) (by rfl) (by decide +kernel) (by rfl) (by rfl) (by omega) (by omega) (by omega) (by omega) rfl ?_
  refine jT_xaload_n (v := (4, 0)) (pcN := 7) jI_129_6 rfl rfl rfl ?_
  refine jT_xgetf (a := 0) (t := 1) (ci := 13) (fi := 11) (c := jzA_5) (v := (4, 11)) (pcN := 10) jI_129_7 rfl rfl rfl rfl rfl rfl rfl ?_
  refine jT_xiload_n (v := (0, 1)) (pcN := 11) jI_129_10 rfl rfl rfl ?_
  refine jT_fR [11, 12, 13, 14, 15, 16, 17, 18, 19, 20] 23 (y := 56) (pcN := 14) (dC := 0) (bc1 := 0) (bc2 := 0) (c1 := 1) (c2 := 6) (as := [(4, 11), (0, 1)]) (asC := [(4, 0), (0, 1)]) (LN := [(0, (4, 0)), (1, (0, 1)), (2, (0, x2))]) (stN := []) (hsC := jpA_1446) (v := (4, 7)) (st2 := [(4, 18)]) (jA_56_357 (d := 0)) (by rfl) (by rfl) (by decide +kernel) (by rfl) (by rfl) (by omega) (by omega) (by omega) (by omega) rfl ?_
  refine jT_xastore_n (v := (4, 18)) (LN := [(3, (4, 18)), (0, (4, 0)), (1, (0, 1)), (2, (0, x2))]) (pcN := 15) jI_129_14 rfl rfl rfl rfl ?_
  refine jT_xaload_n (v := (4, 0)) (pcN := 16) jI_129_15 rfl rfl rfl ?_
  refine jT_xiload_n (v := (0, x2)) (pcN := 17) jI_129_16 rfl rfl rfl ?_
  refine jT_xaload_n (v := (4, 18)) (pcN := 18) jI_129_17 rfl rfl rfl ?_
  refine jT_fR [18, 21, 22] 23 (y := 29) (pcN := 21) (dC := 0) (bc1 := 0) (bc2 := 0) (c1 := 1) (c2 := 6) (as := [(4, 18)]) (asC := [(4, 0)]) (LN := [(3, (4, 18)), (0, (4, 0)), (1, (0, 1)), (2, (0, x2))]) (stN := [(0, x2), (4, 0)]) (hsC := [(7, [(4, 1), (4, (-1)), (4, (-1))], []), (114, [], [2]), jgh]) (v := (0, 1)) (st2 := [(0, 1), (0, x2), (4, 0)]) (jA_29_416 (d := 0)) (by rfl) (by rfl) (by decide +kernel) (by rfl) (by rfl) (by omega) (by omega) (by omega) (by omega) rfl ?_
  exact jT_fX [0] 23 (y := 115) (pcN := 24) (dC := 0) (bc1 := 1) (bc2 := 6) (as := [(4, 0), (0, x2), (0, 1)]) (asC := [(4, 0), (0, x2), (0, 1)]) (LN := [(3, (4, 18)), (0, (4, 0)), (1, (0, 1)), (2, (0, x2))]) (stN := []) (hsC := [jgh]) (e := 0) (jA_115_438 (d := 0) (by omega)) (by rfl) (by rfl) (by decide +kernel) (by rfl) (by rfl) (by omega) (by omega) (by omega) (by omega) ⟨rfl, ⟨rfl, rfl, rfl⟩⟩
def jpA_1846 : List JC := [jzA_14, jgh, jgh, jgh, jgh, jgh, jgh, jgh, jgh, jgh, jgh, jgh, jzA_77, jgh, (117, [], [18, 19, 20, 21]), jgh, jgh, jgh, jgh, (7, [(4, 22), (4, (-1)), (4, (-1))], []), jgh, jgh, (114, [], [23]), jgh]
theorem jA_337_459 {xs : List Int} {d : Nat} {x2 : Int} (h_x2 : (-2147483648) ≤ x2 ∧ x2 ≤ (-1)) : jT xs (d + 2) 337 24 0 [(0, (4, 0)), (1, (0, 1)), (2, (0, x2)), (3, (4, 1))] [] jpA_1846 1 6 (fun k v hsN => k = 0 ∧ v = (0, 1) ∧ hsN = jpA_1846 ++ []) := by
  refine jT_xaload_n (v := (4, 1)) (pcN := 1) jI_337_0 rfl rfl rfl ?_
  refine jT_xiconst (k := 0) (pcN := 2) jI_337_1 rfl ?_
  refine jT_xaload_n (v := (4, 0)) (pcN := 3) jI_337_2 rfl rfl rfl ?_
  refine jT_xiload_n (v := (0, 1)) (pcN := 4) jI_337_3 rfl rfl rfl ?_
  refine jT_xiload_n (v := (0, x2)) (pcN := 5) jI_337_4 rfl rfl rfl ?_
  exact jT_fX [0, 2, 3, 4, 5, 6, 7, 8, 9, 10, 11, 12, 13, 14, 15, 16, 17, 18, 19, 20, 21, 22, 23] 24 (y := 129) (pcN := 8) (dC := 1) (bc1 := 1) (bc2 := 6) (as := [(4, 0), (0, 1), (0, x2)]) (asC := [(4, 0), (0, 1), (0, x2)]) (LN := [(0, (4, 0)), (1, (0, 1)), (2, (0, x2)), (3, (4, 1))]) (stN := [(0, 0), (4, 1)]) (hsC := jpA_1845) (e := 0) (jA_129_458 (d := 0) (by omega)) (by rfl) (by rfl) (by decide +kernel) (by rfl) (by rfl) (by omega) (by omega) (by omega) (by omega) (show _ from ⟨rfl, rfl, rfl⟩)
theorem jA_247_460 {xs : List Int} {d : Nat} {x2 : Int} (h_x2 : (-2147483648) ≤ x2 ∧ x2 ≤ (-1)) : jT xs (d + 1) 247 16 0 [(0, (4, 0)), (1, (0, 1)), (2, (0, x2))] [] jpA_1519 0 0 (fun k v hsN => k = 0 ∧ v = (0, 0) ∧ hsN = jpA_1519 ++ []) := by
  refine jT_xiload_n (v := (0, x2)) (pcN := 1) jI_247_0 rfl rfl rfl ?_
  refine jT_xi2l (x := x2) (z := x2) (pcN := 2) jI_247_1 rfl (jw_idd (by omega) (by omega)) rfl ?_
  refine jT_xlconst (z := 0) (pcN := 3) jI_247_2 rfl rfl ?_
  refine jT_xaload_n (v := (4, 0)) (pcN := 4) jI_247_3 rfl rfl rfl ?_
  refine jT_xiload_n (v := (0, 1)) (pcN := 5) jI_247_4 rfl rfl rfl ?_
  refine jT_fR [0, 1, 2, 3, 4, 5, 6, 7, 8, 9, 10, 11, 12, 13, 14, 15] 16 (y := 245) (pcN := 8) (dC := 0) (bc1 := 0) (bc2 := 0) (c1 := 0) (c2 := 0) (as := [(4, 0), (0, 1)]) (asC := [(4, 0), (0, 1)]) (LN := [(0, (4, 0)), (1, (0, 1)), (2, (0, x2))]) (stN := [(1, 0), (1, x2)]) (hsC := jpA_1519) (v := (0, 1)) (st2 := [(0, 1), (1, 0), (1, x2)]) (jA_245_363 (d := 0)) (by rfl) (by rfl) (by decide +kernel) (by rfl) (by rfl) (by omega) (by omega) (by omega) (by omega) rfl ?_
  refine jT_xiconst (k := 1) (pcN := 9) jI_247_8 rfl ?_
  refine jT_xisub (x := 1) (y := 1) (z := 0) (pcN := 10) jI_247_9 rfl (by decide) rfl ?_
  refine jT_xi2l (x := 0) (z := 0) (pcN := 11) jI_247_10 rfl (by decide +kernel) rfl ?_
  refine jT_fR [] 16 (y := 189) (pcN := 14) (dC := 0) (bc1 := 0) (bc2 := 0) (c1 := 0) (c2 := 0) (as := [(1, x2), (1, 0), (1, 0)]) (asC := [(1, x2), (1, 0), (1, 0)]) (LN := [(0, (4, 0)), (1, (0, 1)), (2, (0, x2))]) (stN := []) (hsC := []) (v := (0, 0)) (st2 := [(0, 0)]) (jT_in_lo (d := 0) (v := x2) (lo := 0) (hi := 0) (by omega) (by omega) (by omega) (by omega)) (by rfl) (by rfl) (by decide +kernel) (by rfl) (by rfl) (by omega) (by omega) (by omega) (by omega) rfl ?_
  exact jT_ret rfl (by decide) (by show 16 ≤ 16; decide) (by omega) (by omega) ⟨rfl, rfl, rfl⟩
theorem jA_246_461 {xs : List Int} {d : Nat} {x2 : Int} (h_x2 : (-2147483648) ≤ x2 ∧ x2 ≤ (-1)) : jT xs (d + 2) 246 16 0 [(0, (4, 0)), (1, (0, 1)), (2, (0, x2))] [] jpA_1519 0 0 (fun k v hsN => k = 0 ∧ v = (0, 0) ∧ hsN = jpA_1820) := by
  refine jT_xaload_n (v := (4, 0)) (pcN := 1) jI_246_0 rfl rfl rfl ?_
  refine jT_xiload_n (v := (0, 1)) (pcN := 2) jI_246_1 rfl rfl rfl ?_
  refine jT_fR [] 16 (y := 238) (pcN := 5) (dC := 1) (bc1 := 0) (bc2 := 0) (c1 := 0) (c2 := 0) (as := [(0, 1)]) (asC := [(0, 1)]) (LN := [(0, (4, 0)), (1, (0, 1)), (2, (0, x2))]) (stN := [(4, 0)]) (hsC := []) (v := (0, 1)) (st2 := [(0, 1), (4, 0)]) (jA_238_362 (d := 0)) (by rfl) (by rfl) (by decide +kernel) (by rfl) (by rfl) (by omega) (by omega) (by omega) (by omega) rfl ?_
  refine jT_fR [0, 1, 2, 3, 4, 5, 6, 7, 8, 9, 10, 11, 12, 13, 14, 15] 16 (y := 190) (pcN := 8) (dC := 1) (bc1 := 0) (bc2 := 0) (c1 := 0) (c2 := 0) (as := [(4, 0), (0, 1)]) (asC := [(4, 0), (0, 1)]) (LN := [(0, (4, 0)), (1, (0, 1)), (2, (0, x2))]) (stN := []) (hsC := jpA_22) (v := (0, 0)) (st2 := [(0, 0)]) (jA_190_39 (d := 0)) (by rfl) (by rfl) (by decide +kernel) (by rfl) (by rfl) (by omega) (by omega) (by omega) (by omega) rfl ?_
  refine jT_xifF (t := 39) (pcN := 11) jI_246_8 rfl (by decide +kernel) rfl rfl ?_
  refine jT_xaload_n (v := (4, 0)) (pcN := 12) jI_246_11 rfl rfl rfl ?_
  refine jT_xaload_n (v := (4, 0)) (pcN := 13) jI_246_12 rfl rfl rfl ?_
  refine jT_xiload_n (v := (0, 1)) (pcN := 14) jI_246_13 rfl rfl rfl ?_
  refine jT_xiload_n (v := (0, x2)) (pcN := 15) jI_246_14 rfl rfl rfl ?_
  refine jT_fR [0, 1, 2, 3, 4, 5, 6, 7, 8, 9, 10, 11, 12, 13, 14, 15] 16 (y := 247) (pcN := 18) (dC := 1) (bc1 := 0) (bc2 := 0) (c1 := 0) (c2 := 0) (as := [(4, 0), (0, 1), (0, x2)]) (asC := [(4, 0), (0, 1), (0, x2)]) (LN := [(0, (4, 0)), (1, (0, 1)), (2, (0, x2))]) (stN := [(4, 0)]) (hsC := jpA_1519) (v := (0, 0)) (st2 := [(0, 0), (4, 0)]) (jA_247_460 (d := 0) (by omega)) (by rfl) (by rfl) (by decide +kernel) (by rfl) (by rfl) (by omega) (by omega) (by omega) (by omega) rfl ?_
  refine jT_xiconst (k := 1) (pcN := 19) jI_246_18 rfl ?_
  refine jT_fB [0, 1, 2, 3, 4, 5, 6, 7, 8, 9, 10, 11, 12, 13, 14, 15] 16 (y := 191) (pcN := 22) (dC := 0) (bc1 := 0) (bc2 := 0) (c1 := 0) (c2 := 0) (as := [(4, 0), (0, 0), (0, 1)]) (asC := [(4, 0), (0, 0), (0, 1)]) (LN := [(0, (4, 0)), (1, (0, 1)), (2, (0, x2))]) (stN := []) (hsC := jpA_22) (hsD := jpA_20) (v := (0, 1)) (st2 := [(0, 1)]) (hs2 := jpA_1820) (jA_191_5 (d := 0)) (by rfl) (by rfl) (by decide +kernel) (by rfl) (by rfl) (by omega) (by omega) (by omega) (by omega) rfl (by decide +kernel) ?_
  refine jT_xifT (pcN := 39) jI_246_22 rfl (by decide +kernel) rfl ?_
  refine jT_xiconst (k := 0) (pcN := 40) jI_246_39 rfl ?_
  exact jT_ret rfl (by decide) (by show 16 ≤ 16; decide) (by omega) (by omega) ⟨rfl, rfl, rfl⟩
def jpA_1847 : List JC := [jzA_5, jgh, jgh, jgh, jgh, jgh, jgh, jgh, jgh, jgh, jzA_79, jzA_88, jgh, (117, [], [17, 18, 19, 20]), jgh, jgh, jgh, jgh, (7, [(4, 21), (4, (-1)), (4, (-1))], []), jgh, jgh, (114, [], [22]), (4, [(4, 23), (1, 1)], []), (101, [], [0, 0, 0, 0, 0, 0])]
def jpA_1848 : List JC := [jzA_5, jgh, jgh, jgh, jgh, jgh, jgh, jgh, jgh, jgh, jzA_79, jzA_88, jgh, (117, [], [17, 18, 19, 20]), jgh, jgh, jgh, jgh, (7, [(4, 21), (4, (-1)), (4, (-1))], []), jgh, jgh, (114, [], [22]), (4, [(4, 23), (1, 1)], []), (101, [], [0, 0, 0, 0, 0, 0]), (114, [], [(-1)])]
def jpA_1849 : List JC := [jzA_5, jgh, jgh, jgh, jgh, jgh, jgh, jgh, jgh, jgh, jzA_79, jzA_88, jgh, (117, [], [17, 18, 19, 20]), jgh, jgh, jgh, jgh, (7, [(4, 21), (4, (-1)), (4, (-1))], []), jgh, jgh, (114, [], [22]), (4, [(4, 23), (1, 1)], []), (101, [], [0, 0, 0, 0, 0, 0]), (114, [], [(-1)]), (101, [], [0, 0, 0, 0, 0, 0]), (4, [(4, 25), (1, 1)], [])]
def jpA_1850 : List JC := [jzA_5, jgh, jgh, jgh, jgh, jgh, jgh, jgh, jgh, jgh, jzA_79, jzA_88, jgh, (117, [], [17, 18, 19, 20]), jgh, jgh, jgh, jgh, (7, [(4, 21), (4, (-1)), (4, (-1))], []), jgh, jgh, (114, [], [22]), (4, [(4, 23), (1, 1)], []), (101, [], [0, 0, 0, 0, 0, 0]), (114, [], [26]), (101, [], [0, 0, 0, 0, 0, 0]), (4, [(4, 25), (1, 1)], [])]
def jpA_1851 : List JC := [jzA_5, jgh, jgh, jgh, jgh, jgh, jgh, jgh, jgh, jgh, jzA_79, jzA_88, jgh, (117, [], [17, 18, 19, 20]), jgh, jgh, jgh, jgh, (7, [(4, 21), (4, (-1)), (4, (-1))], []), jgh, jgh, (114, [], [22]), (4, [(4, 23), (1, 1)], []), (101, [], [0, 0, 0, 0, 0, 0]), (114, [], [26]), (101, [], [0, 0, 0, 0, 0, 0]), (4, [(4, 25), (1, 1)], []), (114, [], [26]), (7, [(4, 27), (4, (-1)), (4, (-1))], [])]
def jpA_1852 : List JC := [jzA_5, jgh, jgh, jgh, jgh, jgh, jgh, jgh, jgh, jgh, jzA_79, jzA_88, jgh, (117, [], [17, 18, 19, 20]), jgh, jgh, jgh, jgh, (7, [(4, 21), (4, (-1)), (4, (-1))], []), jgh, jgh, (114, [], [22]), (4, [(4, 23), (1, 1)], []), (101, [], [0, 0, 0, 0, 0, 0]), (114, [], [26]), (101, [], [0, 0, 0, 0, 0, 0]), (4, [(4, 25), (1, 1)], []), (114, [], [26]), (7, [(4, 27), (4, (-1)), (4, (-1))], []), (117, [], [17, 28, 19, 20]), jzA_1831]
def jpA_1853 : List JC := [jzA_1833, jgh, jgh, jgh, jgh, jgh, jgh, jgh, jgh, jgh, jzA_102, jzA_88, jgh, (117, [], [17, 18, 19, 20]), jgh, jgh, jgh, jgh, (7, [(4, 21), (4, (-1)), (4, (-1))], []), jgh, jgh, (114, [], [22]), (4, [(4, 23), (1, 1)], []), (101, [], [0, 0, 0, 0, 0, 0]), (114, [], [26]), (101, [], [0, 0, 0, 0, 0, 0]), (4, [(4, 25), (1, 1)], []), (114, [], [26]), (7, [(4, 27), (4, (-1)), (4, (-1))], []), (117, [], [17, 28, 19, 20]), jzA_1831]
theorem jA_129_462 {xs : List Int} {d : Nat} : jT xs (d + 4) 129 24 0 [(0, (4, 0)), (1, (0, 1)), (2, (0, 0))] [] jpA_1847 7 22 (fun k v hsN => k = 0 ∧ v = (0, 1) ∧ hsN = jpA_1853) := by
  refine jT_advK 3 (pcN := 3) (LN := [(0, (4, 0)), (1, (0, 1)), (2, (0, 0))]) (stN := [(0, 4), (0, 1), (4, 0)]) (hsN := jpA_1847) (c1 := 0) (s1 := 0) (c2 := 7) (s2 := 22) (by decide +kernel) ?_ (by omega) (by omega)
  refine jT_fR [0] 24 (y := 115) (pcN := 6) (dC := 0) (bc1 := 0) (bc2 := 0) (c1 := 7) (c2 := 22) (as := [(4, 0), (0, 1), (0, 4)]) (asC := [(4, 0), (0, 1), (0, 4)]) (LN := [(0, (4, 0)), (1, (0, 1)), (2, (0, 0))]) (stN := []) (hsC := [jgh]) (v := (9, 0)) (st2 := []) (jA_115_356 (d := 0)) (by rfl) (by rfl) (by decide +kernel) (by rfl) (by rfl) (by omega) (by omega) (by omega) (by omega) rfl ?_
  refine jT_advK 3 (pcN := 11) (LN := [(0, (4, 0)), (1, (0, 1)), (2, (0, 0))]) (stN := [(0, 1), (4, 11)]) (hsN := jpA_1847) (c1 := 0) (s1 := 0) (c2 := 7) (s2 := 22) (by decide +kernel) ?_ (by omega) (by omega)
  refine jT_fR [11, 12, 13, 14, 15, 16, 17, 18, 19, 20] 24 (y := 56) (pcN := 14) (dC := 0) (bc1 := 0) (bc2 := 0) (c1 := 7) (c2 := 22) (as := [(4, 11), (0, 1)]) (asC := [(4, 0), (0, 1)]) (LN := [(0, (4, 0)), (1, (0, 1)), (2, (0, 0))]) (stN := []) (hsC := jpA_1446) (v := (4, 7)) (st2 := [(4, 18)]) (jA_56_357 (d := 0)) (by rfl) (by rfl) (by decide +kernel) (by rfl) (by rfl) (by omega) (by omega) (by omega) (by omega) rfl ?_
  refine jT_advK 4 (pcN := 18) (LN := [(3, (4, 18)), (0, (4, 0)), (1, (0, 1)), (2, (0, 0))]) (stN := [(4, 18), (0, 0), (4, 0)]) (hsN := jpA_1847) (c1 := 0) (s1 := 0) (c2 := 7) (s2 := 22) (by decide +kernel) ?_ (by omega) (by omega)
  refine jT_fR [18, 21, 22] 24 (y := 29) (pcN := 21) (dC := 0) (bc1 := 0) (bc2 := 0) (c1 := 7) (c2 := 22) (as := [(4, 18)]) (asC := [(4, 0)]) (LN := [(3, (4, 18)), (0, (4, 0)), (1, (0, 1)), (2, (0, 0))]) (stN := [(0, 0), (4, 0)]) (hsC := [(7, [(4, 1), (4, (-1)), (4, (-1))], []), (114, [], [2]), jgh]) (v := (0, 1)) (st2 := [(0, 1), (0, 0), (4, 0)]) (jA_29_416 (d := 0)) (by rfl) (by rfl) (by decide +kernel) (by rfl) (by rfl) (by omega) (by omega) (by omega) (by omega) rfl ?_
  refine jT_fR [0] 24 (y := 115) (pcN := 24) (dC := 0) (bc1 := 0) (bc2 := 0) (c1 := 7) (c2 := 22) (as := [(4, 0), (0, 0), (0, 1)]) (asC := [(4, 0), (0, 0), (0, 1)]) (LN := [(3, (4, 18)), (0, (4, 0)), (1, (0, 1)), (2, (0, 0))]) (stN := []) (hsC := [jgh]) (v := (9, 0)) (st2 := []) (jA_115_443 (d := 0)) (by rfl) (by rfl) (by decide +kernel) (by rfl) (by rfl) (by omega) (by omega) (by omega) (by omega) rfl ?_
  refine jT_advK 1 (pcN := 25) (LN := [(3, (4, 18)), (0, (4, 0)), (1, (0, 1)), (2, (0, 0))]) (stN := [(4, 18)]) (hsN := jpA_1847) (c1 := 0) (s1 := 0) (c2 := 7) (s2 := 22) (by decide +kernel) ?_ (by omega) (by omega)
  refine jT_fR [18, 21, 22] 24 (y := 29) (pcN := 28) (dC := 0) (bc1 := 0) (bc2 := 0) (c1 := 7) (c2 := 22) (as := [(4, 18)]) (asC := [(4, 0)]) (LN := [(3, (4, 18)), (0, (4, 0)), (1, (0, 1)), (2, (0, 0))]) (stN := []) (hsC := [(7, [(4, 1), (4, (-1)), (4, (-1))], []), (114, [], [2]), jgh]) (v := (0, 1)) (st2 := [(0, 1)]) (jA_29_416 (d := 0)) (by rfl) (by rfl) (by decide +kernel) (by rfl) (by rfl) (by omega) (by omega) (by omega) (by omega) rfl ?_
  refine jT_advK 13 (pcN := 52) (LN := [(5, (0, 0)), (4, (4, 24)), (3, (4, 18)), (0, (4, 0)), (1, (0, 1)), (2, (0, 0))]) (stN := [(0, 0), (0, 0), (4, 18), (0, 0), (4, 24)]) (hsN := jpA_1848) (c1 := 1) (s1 := 1) (c2 := 6) (s2 := 21) (by decide +kernel) ?_ (by omega) (by omega)
  refine jT_fA [18, 21, 22, 23] 25 (y := 32) (pcN := 55) (dC := 3) (bc1 := 2) (bc2 := 8) (c1 := 4) (c2 := 13) (as := [(4, 18), (0, 0), (0, 0)]) (asC := [(4, 0), (0, 0), (0, 0)]) (LN := [(5, (0, 0)), (4, (4, 24)), (3, (4, 18)), (0, (4, 0)), (1, (0, 1)), (2, (0, 0))]) (stN := [(0, 0), (4, 24)]) (hsC := jpA_1822) (ex := [(101, [], [0, 0, 0, 0, 0, 0]), (4, [(4, 4), (1, 1)], [])]) (v := (4, 5)) (st2 := [(4, 26), (0, 0), (4, 24)]) (hs2 := jpA_1849) (jA_32_444 (d := 0)) (by rfl) (by rfl) (by decide +kernel) (by rfl) (by rfl) (by omega) (by omega) (by omega) (by omega) rfl (by decide +kernel) ?_
  refine jT_advK 5 (pcN := 62) (LN := [(5, (0, 0)), (4, (4, 24)), (3, (4, 18)), (0, (4, 0)), (1, (0, 1)), (2, (0, 0))]) (stN := [(4, 26), (4, 0)]) (hsN := jpA_1850) (c1 := 0) (s1 := 0) (c2 := 4) (s2 := 13) (by decide +kernel) ?_ (by omega) (by omega)
  refine jT_fR [0, 26, 25] 27 (y := 117) (pcN := 65) (dC := 2) (bc1 := 0) (bc2 := 0) (c1 := 4) (c2 := 13) (as := [(4, 0), (4, 26)]) (asC := [(4, 0), (4, 1)]) (LN := [(5, (0, 0)), (4, (4, 24)), (3, (4, 18)), (0, (4, 0)), (1, (0, 1)), (2, (0, 0))]) (stN := []) (hsC := [jgh, (4, [(4, 2), (1, 1)], []), (101, [], [0, 0, 0, 0, 0, 0])]) (v := (9, 0)) (st2 := []) (jA_117_31 (d := 0)) (by rfl) (by rfl) (by decide +kernel) (by rfl) (by rfl) (by omega) (by omega) (by omega) (by omega) rfl ?_
  refine jT_advK 13 (pcN := 82) (LN := [(5, (0, 1)), (4, (4, 24)), (3, (4, 18)), (0, (4, 0)), (1, (0, 1)), (2, (0, 0))]) (stN := [(0, 1), (4, 24), (0, 1), (4, 11), (4, 0)]) (hsN := jpA_1850) (c1 := 0) (s1 := 0) (c2 := 4) (s2 := 13) (by decide +kernel) ?_ (by omega) (by omega)
  refine jT_fA [24, 26, 25] 27 (y := 27) (pcN := 85) (dC := 1) (bc1 := 2) (bc2 := 4) (c1 := 2) (c2 := 9) (as := [(4, 24), (0, 1)]) (asC := [(4, 0), (0, 1)]) (LN := [(5, (0, 1)), (4, (4, 24)), (3, (4, 18)), (0, (4, 0)), (1, (0, 1)), (2, (0, 0))]) (stN := [(0, 1), (4, 11), (4, 0)]) (hsC := [(114, [], [1]), (4, [(4, 2), (1, 1)], []), jgh]) (ex := [(114, [], [1]), (7, [(4, 3), (4, (-1)), (4, (-1))], [])]) (v := (4, 4)) (st2 := [(4, 28), (0, 1), (4, 11), (4, 0)]) (hs2 := jpA_1851) (jA_27_445 (d := 0)) (by rfl) (by rfl) (by decide +kernel) (by rfl) (by rfl) (by omega) (by omega) (by omega) (by omega) rfl (by decide +kernel) ?_
  refine jT_fA [11, 28, 12, 13, 14, 15, 16, 27, 17, 18, 19, 20] 29 (y := 60) (pcN := 88) (dC := 1) (bc1 := 2) (bc2 := 9) (c1 := 0) (c2 := 0) (as := [(4, 11), (0, 1), (4, 28)]) (asC := [(4, 0), (0, 1), (4, 1)]) (LN := [(5, (0, 1)), (4, (4, 24)), (3, (4, 18)), (0, (4, 0)), (1, (0, 1)), (2, (0, 0))]) (stN := [(4, 0)]) (hsC := jpA_1461) (ex := [(117, [], [8, 1, 10, 11]), jzA_1459]) (v := (4, 13)) (st2 := [(4, 30), (4, 0)]) (hs2 := jpA_1852) (jA_60_358 (d := 0)) (by rfl) (by rfl) (by decide +kernel) (by rfl) (by rfl) (by omega) (by omega) (by omega) (by omega) rfl (by decide +kernel) ?_
  refine jT_fB [0, 30, 1, 2, 3, 4, 5, 6, 7, 8, 9, 10, 11, 12, 13, 14, 15, 16] 31 (y := 100) (pcN := 91) (dC := 0) (bc1 := 0) (bc2 := 0) (c1 := 0) (c2 := 0) (as := [(4, 0), (4, 30)]) (asC := [(4, 0), (4, 1)]) (LN := [(5, (0, 1)), (4, (4, 24)), (3, (4, 18)), (0, (4, 0)), (1, (0, 1)), (2, (0, 0))]) (stN := []) (hsC := jpA_80) (hsD := jpA_78) (v := (9, 0)) (st2 := []) (hs2 := jpA_1853) (jA_100_34 (d := 0)) (by rfl) (by rfl) (by decide +kernel) (by rfl) (by rfl) (by omega) (by omega) (by omega) (by omega) rfl (by decide +kernel) ?_
  refine jT_advK 2 (pcN := 94) (LN := [(5, (0, 1)), (4, (4, 24)), (3, (4, 18)), (0, (4, 0)), (1, (0, 1)), (2, (0, 0))]) (stN := [(0, 1)]) (hsN := jpA_1853) (c1 := 0) (s1 := 0) (c2 := 0) (s2 := 0) (by decide +kernel) ?_ (by omega) (by omega)
  exact jT_ret rfl (by decide) (by show 24 ≤ 31; decide) (by omega) (by omega) ⟨rfl, rfl, rfl⟩
def jpA_1854 : List JC := [jzA_14, (101, [], [0]), jgh, jgh, jgh, jgh, jgh, jgh, jgh, jgh, jgh, jzA_79, jzA_77, jgh, (117, [], [18, 19, 20, 21]), jgh, jgh, jgh, jgh, (7, [(4, 22), (4, (-1)), (4, (-1))], []), jgh, jgh, (114, [], [23]), (4, [(4, 24), (1, 1)], []), (101, [], [0, 0, 0, 0, 0, 0])]
def jpA_1855 : List JC := [jzA_1836, (101, [], [0]), jgh, jgh, jgh, jgh, jgh, jgh, jgh, jgh, jgh, jzA_76, jzA_77, jgh, (117, [], [18, 19, 20, 21]), jgh, jgh, jgh, jgh, (7, [(4, 22), (4, (-1)), (4, (-1))], []), jgh, jgh, (114, [], [23]), (4, [(4, 24), (1, 1)], []), (101, [], [0, 0, 0, 0, 0, 0]), (114, [], [27]), (101, [], [0, 0, 0, 0, 0, 0]), (4, [(4, 26), (1, 1)], []), (114, [], [27]), (7, [(4, 28), (4, (-1)), (4, (-1))], []), (117, [], [18, 29, 20, 21]), jzA_1837]
def jpA_1856 : List JC := [jzA_1836, (101, [], [1]), jgh, jgh, jgh, jgh, jgh, jgh, jgh, jgh, jgh, jzA_76, jzA_77, jgh, (117, [], [18, 19, 20, 21]), jgh, jgh, jgh, jgh, (7, [(4, 22), (4, (-1)), (4, (-1))], []), jgh, jgh, (114, [], [23]), (4, [(4, 24), (1, 1)], []), (101, [], [0, 0, 0, 0, 0, 0]), (114, [], [27]), (101, [], [0, 0, 0, 0, 0, 0]), (4, [(4, 26), (1, 1)], []), (114, [], [27]), (7, [(4, 28), (4, (-1)), (4, (-1))], []), (117, [], [18, 29, 20, 21]), jzA_1837]
theorem jA_337_463 {xs : List Int} {d : Nat} : jT xs (d + 5) 337 25 0 [(0, (4, 0)), (1, (0, 1)), (2, (0, 0)), (3, (4, 1))] [] jpA_1854 7 22 (fun k v hsN => k = 0 ∧ v = (0, 0) ∧ hsN = jpA_1856) := by
  refine jT_advK 5 (pcN := 5) (LN := [(0, (4, 0)), (1, (0, 1)), (2, (0, 0)), (3, (4, 1))]) (stN := [(0, 0), (0, 1), (4, 0), (0, 0), (4, 1)]) (hsN := jpA_1854) (c1 := 0) (s1 := 0) (c2 := 7) (s2 := 22) (by decide +kernel) ?_ (by omega) (by omega)
  refine jT_fB [0, 2, 3, 4, 5, 6, 7, 8, 9, 10, 11, 12, 13, 14, 15, 16, 17, 18, 19, 20, 21, 22, 23, 24] 25 (y := 129) (pcN := 8) (dC := 4) (bc1 := 7) (bc2 := 22) (c1 := 0) (c2 := 0) (as := [(4, 0), (0, 1), (0, 0)]) (asC := [(4, 0), (0, 1), (0, 0)]) (LN := [(0, (4, 0)), (1, (0, 1)), (2, (0, 0)), (3, (4, 1))]) (stN := [(0, 0), (4, 1)]) (hsC := jpA_1847) (hsD := jpA_1853) (v := (0, 1)) (st2 := [(0, 1), (0, 0), (4, 1)]) (hs2 := jpA_1855) (jA_129_462 (d := 0)) (by rfl) (by rfl) (by decide +kernel) (by rfl) (by rfl) (by omega) (by omega) (by omega) (by omega) rfl (by decide +kernel) ?_
  refine jT_advK 4 (pcN := 22) (LN := [(0, (4, 0)), (1, (0, 1)), (2, (0, 0)), (3, (4, 1))]) (stN := [(0, 0)]) (hsN := jpA_1856) (c1 := 0) (s1 := 0) (c2 := 0) (s2 := 0) (by decide +kernel) ?_ (by omega) (by omega)
  exact jT_ret rfl (by decide) (by show 25 ≤ 32; decide) (by omega) (by omega) ⟨rfl, rfl, rfl⟩
theorem jA_247_464 {xs : List Int} {d : Nat} : jT xs (d + 1) 247 16 0 [(0, (4, 0)), (1, (0, 1)), (2, (0, 0))] [] jpA_1519 0 0 (fun k v hsN => k = 0 ∧ v = (0, 1) ∧ hsN = jpA_1519 ++ []) := by
  refine jT_advK 5 (pcN := 5) (LN := [(0, (4, 0)), (1, (0, 1)), (2, (0, 0))]) (stN := [(0, 1), (4, 0), (1, 0), (1, 0)]) (hsN := jpA_1519) (c1 := 0) (s1 := 0) (c2 := 0) (s2 := 0) (by decide +kernel) ?_ (by omega) (by omega)
  refine jT_fR [0, 1, 2, 3, 4, 5, 6, 7, 8, 9, 10, 11, 12, 13, 14, 15] 16 (y := 245) (pcN := 8) (dC := 0) (bc1 := 0) (bc2 := 0) (c1 := 0) (c2 := 0) (as := [(4, 0), (0, 1)]) (asC := [(4, 0), (0, 1)]) (LN := [(0, (4, 0)), (1, (0, 1)), (2, (0, 0))]) (stN := [(1, 0), (1, 0)]) (hsC := jpA_1519) (v := (0, 1)) (st2 := [(0, 1), (1, 0), (1, 0)]) (jA_245_363 (d := 0)) (by rfl) (by rfl) (by decide +kernel) (by rfl) (by rfl) (by omega) (by omega) (by omega) (by omega) rfl ?_
  refine jT_advK 3 (pcN := 11) (LN := [(0, (4, 0)), (1, (0, 1)), (2, (0, 0))]) (stN := [(1, 0), (1, 0), (1, 0)]) (hsN := jpA_1519) (c1 := 0) (s1 := 0) (c2 := 0) (s2 := 0) (by decide +kernel) ?_ (by omega) (by omega)
  refine jT_fR [] 16 (y := 189) (pcN := 14) (dC := 0) (bc1 := 0) (bc2 := 0) (c1 := 0) (c2 := 0) (as := [(1, 0), (1, 0), (1, 0)]) (asC := [(1, 0), (1, 0), (1, 0)]) (LN := [(0, (4, 0)), (1, (0, 1)), (2, (0, 0))]) (stN := []) (hsC := []) (v := (0, 1)) (st2 := [(0, 1)]) (jA_189_448 (d := 0)) (by rfl) (by rfl) (by decide +kernel) (by rfl) (by rfl) (by omega) (by omega) (by omega) (by omega) rfl ?_
  exact jT_ret rfl (by decide) (by show 16 ≤ 16; decide) (by omega) (by omega) ⟨rfl, rfl, rfl⟩
theorem jA_204_465 {xs : List Int} {d : Nat} : jT xs (d + 2) 204 16 0 [(0, (4, 0)), (1, (4, 1)), (2, (0, 338)), (3, (1, (-1)))] [] jpA_130 0 0 (fun k v hsN => k = 0 ∧ v = (9, 0) ∧ hsN = jpA_130 ++ []) := by
  refine jT_advK 4 (pcN := 5) (LN := [(0, (4, 0)), (1, (4, 1)), (2, (0, 338)), (3, (1, (-1)))]) (stN := [(0, 344), (4, 1)]) (hsN := jpA_130) (c1 := 0) (s1 := 0) (c2 := 0) (s2 := 0) (by decide +kernel) ?_ (by omega) (by omega)
  refine jT_iald (x := 1) (a := 1) (j := 344) (fs := []) (X := jS0) (by rfl) (by rfl) (by rfl) (by rfl) (by decide +kernel) ?_
  refine jT_eq (LN := [(0, (4, 0)), (1, (4, 1)), (2, (0, 338)), (3, (1, (-1)))]) (stN := [(0, 1)]) (hsN := jpA_130) rfl rfl rfl ?_
  refine jT_advK 7 (pcN := 19) (LN := [(5, (1, 1)), (0, (4, 0)), (1, (4, 1)), (2, (0, 338)), (3, (1, (-1)))]) (stN := [(1, 1), (1, 1), (1, 1)]) (hsN := jpA_130) (c1 := 0) (s1 := 0) (c2 := 0) (s2 := 0) (by decide +kernel) ?_ (by omega) (by omega)
  refine jT_fR [] 16 (y := 194) (pcN := 22) (dC := 1) (bc1 := 0) (bc2 := 0) (c1 := 0) (c2 := 0) (as := [(1, 1), (1, 1)]) (asC := [(1, 1), (1, 1)]) (LN := [(5, (1, 1)), (0, (4, 0)), (1, (4, 1)), (2, (0, 338)), (3, (1, (-1)))]) (stN := [(1, 1)]) (hsC := []) (v := (1, 1)) (st2 := [(1, 1), (1, 1)]) (jA_194_43 (d := 0)) (by rfl) (by rfl) (by decide +kernel) (by rfl) (by rfl) (by omega) (by omega) (by omega) (by omega) rfl ?_
  refine jT_advK 26 (pcN := 65) (LN := [(9, (0, 0)), (7, (1, 1)), (5, (1, 1)), (0, (4, 0)), (1, (4, 1)), (2, (0, 338)), (3, (1, (-1)))]) (stN := [(0, 338), (4, 1), (1, (-1)), (1, 0), (0, 0), (4, 7)]) (hsN := jpA_130) (c1 := 0) (s1 := 0) (c2 := 0) (s2 := 0) (by decide +kernel) ?_ (by omega) (by omega)
  refine jT_iald (x := 0) (a := 1) (j := 338) (fs := []) (X := jS0) (by rfl) (by rfl) (by rfl) (by rfl) (by decide +kernel) ?_
  refine jT_eq (LN := [(9, (0, 0)), (7, (1, 1)), (5, (1, 1)), (0, (4, 0)), (1, (4, 1)), (2, (0, 338)), (3, (1, (-1)))]) (stN := [(0, 0), (1, (-1)), (1, 0), (0, 0), (4, 7)]) (hsN := jpA_130) rfl rfl rfl ?_
  refine jT_advK 30 (pcN := 65) (LN := [(9, (0, 1)), (7, (1, 1)), (5, (1, 1)), (0, (4, 0)), (1, (4, 1)), (2, (0, 338)), (3, (1, (-1)))]) (stN := [(0, 339), (4, 1), (1, (-1)), (1, 0), (0, 1), (4, 7)]) (hsN := jpA_130) (c1 := 0) (s1 := 0) (c2 := 0) (s2 := 0) (by decide +kernel) ?_ (by omega) (by omega)
  refine jT_iald (x := 0) (a := 1) (j := 339) (fs := []) (X := jS0) (by rfl) (by rfl) (by rfl) (by rfl) (by decide +kernel) ?_
  refine jT_eq (LN := [(9, (0, 1)), (7, (1, 1)), (5, (1, 1)), (0, (4, 0)), (1, (4, 1)), (2, (0, 338)), (3, (1, (-1)))]) (stN := [(0, 0), (1, (-1)), (1, 0), (0, 1), (4, 7)]) (hsN := jpA_130) rfl rfl rfl ?_
  refine jT_advK 30 (pcN := 65) (LN := [(9, (0, 2)), (7, (1, 1)), (5, (1, 1)), (0, (4, 0)), (1, (4, 1)), (2, (0, 338)), (3, (1, (-1)))]) (stN := [(0, 340), (4, 1), (1, (-1)), (1, 0), (0, 2), (4, 7)]) (hsN := jpA_130) (c1 := 0) (s1 := 0) (c2 := 0) (s2 := 0) (by decide +kernel) ?_ (by omega) (by omega)
  refine jT_iald (x := 0) (a := 1) (j := 340) (fs := []) (X := jS0) (by rfl) (by rfl) (by rfl) (by rfl) (by decide +kernel) ?_
  refine jT_eq (LN := [(9, (0, 2)), (7, (1, 1)), (5, (1, 1)), (0, (4, 0)), (1, (4, 1)), (2, (0, 338)), (3, (1, (-1)))]) (stN := [(0, 0), (1, (-1)), (1, 0), (0, 2), (4, 7)]) (hsN := jpA_130) rfl rfl rfl ?_
  refine jT_advK 30 (pcN := 65) (LN := [(9, (0, 3)), (7, (1, 1)), (5, (1, 1)), (0, (4, 0)), (1, (4, 1)), (2, (0, 338)), (3, (1, (-1)))]) (stN := [(0, 341), (4, 1), (1, (-1)), (1, 0), (0, 3), (4, 7)]) (hsN := jpA_130) (c1 := 0) (s1 := 0) (c2 := 0) (s2 := 0) (by decide +kernel) ?_ (by omega) (by omega)
  refine jT_iald (x := 0) (a := 1) (j := 341) (fs := []) (X := jS0) (by rfl) (by rfl) (by rfl) (by rfl) (by decide +kernel) ?_
  refine jT_eq (LN := [(9, (0, 3)), (7, (1, 1)), (5, (1, 1)), (0, (4, 0)), (1, (4, 1)), (2, (0, 338)), (3, (1, (-1)))]) (stN := [(0, 0), (1, (-1)), (1, 0), (0, 3), (4, 7)]) (hsN := jpA_130) rfl rfl rfl ?_
  refine jT_advK 30 (pcN := 65) (LN := [(9, (0, 4)), (7, (1, 1)), (5, (1, 1)), (0, (4, 0)), (1, (4, 1)), (2, (0, 338)), (3, (1, (-1)))]) (stN := [(0, 342), (4, 1), (1, (-1)), (1, 0), (0, 4), (4, 7)]) (hsN := jpA_130) (c1 := 0) (s1 := 0) (c2 := 0) (s2 := 0) (by decide +kernel) ?_ (by omega) (by omega)
  refine jT_iald (x := 0) (a := 1) (j := 342) (fs := []) (X := jS0) (by rfl) (by rfl) (by rfl) (by rfl) (by decide +kernel) ?_
  refine jT_eq (LN := [(9, (0, 4)), (7, (1, 1)), (5, (1, 1)), (0, (4, 0)), (1, (4, 1)), (2, (0, 338)), (3, (1, (-1)))]) (stN := [(0, 0), (1, (-1)), (1, 0), (0, 4), (4, 7)]) (hsN := jpA_130) rfl rfl rfl ?_
  refine jT_advK 30 (pcN := 65) (LN := [(9, (0, 5)), (7, (1, 1)), (5, (1, 1)), (0, (4, 0)), (1, (4, 1)), (2, (0, 338)), (3, (1, (-1)))]) (stN := [(0, 343), (4, 1), (1, (-1)), (1, 0), (0, 5), (4, 7)]) (hsN := jpA_130) (c1 := 0) (s1 := 0) (c2 := 0) (s2 := 0) (by decide +kernel) ?_ (by omega) (by omega)
  refine jT_iald (x := 0) (a := 1) (j := 343) (fs := []) (X := jS0) (by rfl) (by rfl) (by rfl) (by rfl) (by decide +kernel) ?_
  refine jT_eq (LN := [(9, (0, 5)), (7, (1, 1)), (5, (1, 1)), (0, (4, 0)), (1, (4, 1)), (2, (0, 338)), (3, (1, (-1)))]) (stN := [(0, 0), (1, (-1)), (1, 0), (0, 5), (4, 7)]) (hsN := jpA_130) rfl rfl rfl ?_
  refine jT_advK 17 (pcN := 89) (LN := [(9, (0, 6)), (7, (1, 1)), (5, (1, 1)), (0, (4, 0)), (1, (4, 1)), (2, (0, 338)), (3, (1, (-1)))]) (stN := [(4, 0)]) (hsN := jpA_130) (c1 := 0) (s1 := 0) (c2 := 0) (s2 := 0) (by decide +kernel) ?_ (by omega) (by omega)
  refine jT_fR [0, 1, 2, 3, 4, 5, 6, 7, 8, 9, 10, 11, 12, 13, 14, 15] 16 (y := 199) (pcN := 92) (dC := 1) (bc1 := 0) (bc2 := 0) (c1 := 0) (c2 := 0) (as := [(4, 0)]) (asC := [(4, 0)]) (LN := [(9, (0, 6)), (7, (1, 1)), (5, (1, 1)), (0, (4, 0)), (1, (4, 1)), (2, (0, 338)), (3, (1, (-1)))]) (stN := []) (hsC := jpA_147) (v := (9, 0)) (st2 := []) (jA_199_45 (d := 0)) (by rfl) (by rfl) (by decide +kernel) (by rfl) (by rfl) (by omega) (by omega) (by omega) (by omega) rfl ?_
  exact jT_ret rfl (by decide) (by show 16 ≤ 16; decide) (by omega) (by omega) ⟨rfl, rfl, rfl⟩
theorem jA_248_466 {xs : List Int} {d : Nat} : jT xs (d + 3) 248 16 0 [(0, (4, 0)), (1, (0, 1)), (2, (0, 0))] [] jpA_1840 0 0 (fun k v hsN => k = 0 ∧ v = (0, 1) ∧ hsN = jpA_1841) := by
  refine jT_advK 10 (pcN := 14) (LN := [(4, (0, 0)), (3, (0, 1)), (0, (4, 0)), (1, (0, 1)), (2, (0, 0))]) (stN := [(0, 1), (4, 0), (0, 0)]) (hsN := jpA_1840) (c1 := 0) (s1 := 0) (c2 := 0) (s2 := 0) (by decide +kernel) ?_ (by omega) (by omega)
  refine jT_fR [0, 1, 2, 3, 4, 5, 6, 7, 8, 9, 10, 11, 12, 13, 14, 15] 16 (y := 245) (pcN := 17) (dC := 0) (bc1 := 0) (bc2 := 0) (c1 := 0) (c2 := 0) (as := [(4, 0), (0, 1)]) (asC := [(4, 0), (0, 1)]) (LN := [(4, (0, 0)), (3, (0, 1)), (0, (4, 0)), (1, (0, 1)), (2, (0, 0))]) (stN := [(0, 0)]) (hsC := jpA_1519) (v := (0, 1)) (st2 := [(0, 1), (0, 0)]) (jA_245_363 (d := 0)) (by rfl) (by rfl) (by decide +kernel) (by rfl) (by rfl) (by omega) (by omega) (by omega) (by omega) rfl ?_
  refine jT_advK 6 (pcN := 28) (LN := [(4, (0, 0)), (3, (0, 1)), (0, (4, 0)), (1, (0, 1)), (2, (0, 0))]) (stN := [(0, 0), (0, 1), (4, 1), (4, 0)]) (hsN := jpA_1840) (c1 := 0) (s1 := 0) (c2 := 0) (s2 := 0) (by decide +kernel) ?_ (by omega) (by omega)
  refine jT_fR [] 16 (y := 242) (pcN := 31) (dC := 0) (bc1 := 0) (bc2 := 0) (c1 := 0) (c2 := 0) (as := [(0, 1), (0, 0)]) (asC := [(0, 1), (0, 0)]) (LN := [(4, (0, 0)), (3, (0, 1)), (0, (4, 0)), (1, (0, 1)), (2, (0, 0))]) (stN := [(4, 1), (4, 0)]) (hsC := []) (v := (0, 338)) (st2 := [(0, 338), (4, 1), (4, 0)]) (jA_242_364 (d := 0)) (by rfl) (by rfl) (by decide +kernel) (by rfl) (by rfl) (by omega) (by omega) (by omega) (by omega) rfl ?_
  refine jT_fR [0, 1, 2, 3, 4, 5, 6, 7, 8, 9, 10, 11, 12, 13, 14, 15] 16 (y := 203) (pcN := 34) (dC := 0) (bc1 := 0) (bc2 := 0) (c1 := 0) (c2 := 0) (as := [(4, 0), (4, 1), (0, 338)]) (asC := [(4, 0), (4, 1), (0, 338)]) (LN := [(4, (0, 0)), (3, (0, 1)), (0, (4, 0)), (1, (0, 1)), (2, (0, 0))]) (stN := []) (hsC := jpA_130) (v := (9, 0)) (st2 := []) (jA_203_367 (d := 0)) (by rfl) (by rfl) (by decide +kernel) (by rfl) (by rfl) (by omega) (by omega) (by omega) (by omega) rfl ?_
  refine jT_advK 5 (pcN := 41) (LN := [(4, (0, 0)), (3, (0, 1)), (0, (4, 0)), (1, (0, 1)), (2, (0, 0))]) (stN := [(0, 0), (0, 1), (4, 1), (4, 0)]) (hsN := jpA_1840) (c1 := 0) (s1 := 0) (c2 := 0) (s2 := 0) (by decide +kernel) ?_ (by omega) (by omega)
  refine jT_fR [] 16 (y := 242) (pcN := 44) (dC := 0) (bc1 := 0) (bc2 := 0) (c1 := 0) (c2 := 0) (as := [(0, 1), (0, 0)]) (asC := [(0, 1), (0, 0)]) (LN := [(4, (0, 0)), (3, (0, 1)), (0, (4, 0)), (1, (0, 1)), (2, (0, 0))]) (stN := [(4, 1), (4, 0)]) (hsC := []) (v := (0, 338)) (st2 := [(0, 338), (4, 1), (4, 0)]) (jA_242_364 (d := 0)) (by rfl) (by rfl) (by decide +kernel) (by rfl) (by rfl) (by omega) (by omega) (by omega) (by omega) rfl ?_
  refine jT_advK 1 (pcN := 47) (LN := [(4, (0, 0)), (3, (0, 1)), (0, (4, 0)), (1, (0, 1)), (2, (0, 0))]) (stN := [(1, (-1)), (0, 338), (4, 1), (4, 0)]) (hsN := jpA_1840) (c1 := 0) (s1 := 0) (c2 := 0) (s2 := 0) (by decide +kernel) ?_ (by omega) (by omega)
  refine jT_fR [0, 1, 2, 3, 4, 5, 6, 7, 8, 9, 10, 11, 12, 13, 14, 15] 16 (y := 204) (pcN := 50) (dC := 2) (bc1 := 0) (bc2 := 0) (c1 := 0) (c2 := 0) (as := [(4, 0), (4, 1), (0, 338), (1, (-1))]) (asC := [(4, 0), (4, 1), (0, 338), (1, (-1))]) (LN := [(4, (0, 0)), (3, (0, 1)), (0, (4, 0)), (1, (0, 1)), (2, (0, 0))]) (stN := []) (hsC := jpA_130) (v := (9, 0)) (st2 := []) (jA_204_465 (d := 0)) (by rfl) (by rfl) (by decide +kernel) (by rfl) (by rfl) (by omega) (by omega) (by omega) (by omega) rfl ?_
  refine jT_advK 6 (pcN := 74) (LN := [(4, (0, 0)), (3, (0, 1)), (0, (4, 0)), (1, (0, 1)), (2, (0, 0))]) (stN := [(4, 0)]) (hsN := jpA_1840) (c1 := 0) (s1 := 0) (c2 := 0) (s2 := 0) (by decide +kernel) ?_ (by omega) (by omega)
  refine jT_fR [0, 1, 2, 3, 4, 5, 6, 7, 8, 9, 10, 11, 12, 13, 14, 15] 16 (y := 205) (pcN := 77) (dC := 1) (bc1 := 0) (bc2 := 0) (c1 := 0) (c2 := 0) (as := [(4, 0)]) (asC := [(4, 0)]) (LN := [(4, (0, 0)), (3, (0, 1)), (0, (4, 0)), (1, (0, 1)), (2, (0, 0))]) (stN := []) (hsC := jpA_147) (v := (0, 1)) (st2 := [(0, 1)]) (jA_205_48 (d := 0)) (by rfl) (by rfl) (by decide +kernel) (by rfl) (by rfl) (by omega) (by omega) (by omega) (by omega) rfl ?_
  refine jT_advK 7 (pcN := 91) (LN := [(3, (0, 1)), (4, (0, 0)), (0, (4, 0)), (1, (0, 1)), (2, (0, 0))]) (stN := [(4, 0)]) (hsN := jpA_1840) (c1 := 0) (s1 := 0) (c2 := 0) (s2 := 0) (by decide +kernel) ?_ (by omega) (by omega)
  refine jT_fB [0, 1, 2, 3, 4, 5, 6, 7, 8, 9, 10, 11, 12, 13, 14, 15] 16 (y := 239) (pcN := 94) (dC := 1) (bc1 := 0) (bc2 := 0) (c1 := 0) (c2 := 0) (as := [(4, 0)]) (asC := [(4, 0)]) (LN := [(3, (0, 1)), (4, (0, 0)), (0, (4, 0)), (1, (0, 1)), (2, (0, 0))]) (stN := []) (hsC := jpA_1541) (hsD := jpA_1544) (v := (9, 0)) (st2 := []) (hs2 := jpA_1841) (jA_239_346 (d := 0)) (by rfl) (by rfl) (by decide +kernel) (by rfl) (by rfl) (by omega) (by omega) (by omega) (by omega) rfl (by decide +kernel) ?_
  refine jT_advK 5 (pcN := 14) (LN := [(4, (0, 1)), (3, (0, 1)), (0, (4, 0)), (1, (0, 1)), (2, (0, 0))]) (stN := [(0, 1), (4, 0), (0, 1)]) (hsN := jpA_1841) (c1 := 0) (s1 := 0) (c2 := 0) (s2 := 0) (by decide +kernel) ?_ (by omega) (by omega)
  refine jT_fR [0, 1, 2, 3, 4, 5, 6, 7, 8, 9, 10, 11, 12, 13, 14, 15] 16 (y := 245) (pcN := 17) (dC := 0) (bc1 := 0) (bc2 := 0) (c1 := 0) (c2 := 0) (as := [(4, 0), (0, 1)]) (asC := [(4, 0), (0, 1)]) (LN := [(4, (0, 1)), (3, (0, 1)), (0, (4, 0)), (1, (0, 1)), (2, (0, 0))]) (stN := [(0, 1)]) (hsC := jpA_1545) (v := (0, 1)) (st2 := [(0, 1), (0, 1)]) (jA_245_368 (d := 0)) (by rfl) (by rfl) (by decide +kernel) (by rfl) (by rfl) (by omega) (by omega) (by omega) (by omega) rfl ?_
  refine jT_advK 2 (pcN := 101) (LN := [(4, (0, 1)), (3, (0, 1)), (0, (4, 0)), (1, (0, 1)), (2, (0, 0))]) (stN := [(0, 1)]) (hsN := jpA_1841) (c1 := 0) (s1 := 0) (c2 := 0) (s2 := 0) (by decide +kernel) ?_ (by omega) (by omega)
  exact jT_ret rfl (by decide) (by show 16 ≤ 16; decide) (by omega) (by omega) ⟨rfl, rfl, rfl⟩
def jpA_1857 : List JC := [jzA_1556, jzA_1645, (100, [], []), jzA_196, jzA_201, jgh, jgh, (101, [], [0, 0, 0, 0, 0, 0]), jzA_1539, jgh, jgh, jgh, jgh, jgh, jgh, jgh, (100, [], jS0), jgh, jgh, jgh, jgh, jgh, jgh, jgh]
theorem jA_246_467 {xs : List Int} {d : Nat} : jT xs (d + 4) 246 24 0 [(0, (4, 0)), (1, (0, 1)), (2, (0, 0))] [] jpA_1842 0 0 (fun k v hsN => k = 0 ∧ v = (0, 1) ∧ hsN = jpA_1857) := by
  refine jT_advK 2 (pcN := 2) (LN := [(0, (4, 0)), (1, (0, 1)), (2, (0, 0))]) (stN := [(0, 1), (4, 0)]) (hsN := jpA_1842) (c1 := 0) (s1 := 0) (c2 := 0) (s2 := 0) (by decide +kernel) ?_ (by omega) (by omega)
  refine jT_fR [] 24 (y := 238) (pcN := 5) (dC := 1) (bc1 := 0) (bc2 := 0) (c1 := 0) (c2 := 0) (as := [(0, 1)]) (asC := [(0, 1)]) (LN := [(0, (4, 0)), (1, (0, 1)), (2, (0, 0))]) (stN := [(4, 0)]) (hsC := []) (v := (0, 1)) (st2 := [(0, 1), (4, 0)]) (jA_238_362 (d := 0)) (by rfl) (by rfl) (by decide +kernel) (by rfl) (by rfl) (by omega) (by omega) (by omega) (by omega) rfl ?_
  refine jT_fR [0, 1, 2, 3, 4, 5, 6, 7, 8, 9, 10, 11, 12, 13, 14, 15] 24 (y := 190) (pcN := 8) (dC := 1) (bc1 := 0) (bc2 := 0) (c1 := 0) (c2 := 0) (as := [(4, 0), (0, 1)]) (asC := [(4, 0), (0, 1)]) (LN := [(0, (4, 0)), (1, (0, 1)), (2, (0, 0))]) (stN := []) (hsC := jpA_22) (v := (0, 0)) (st2 := [(0, 0)]) (jA_190_39 (d := 0)) (by rfl) (by rfl) (by decide +kernel) (by rfl) (by rfl) (by omega) (by omega) (by omega) (by omega) rfl ?_
  refine jT_advK 5 (pcN := 15) (LN := [(0, (4, 0)), (1, (0, 1)), (2, (0, 0))]) (stN := [(0, 0), (0, 1), (4, 0), (4, 0)]) (hsN := jpA_1842) (c1 := 0) (s1 := 0) (c2 := 0) (s2 := 0) (by decide +kernel) ?_ (by omega) (by omega)
  refine jT_fR [0, 1, 2, 3, 4, 5, 6, 7, 8, 9, 10, 11, 12, 13, 14, 15] 24 (y := 247) (pcN := 18) (dC := 1) (bc1 := 0) (bc2 := 0) (c1 := 0) (c2 := 0) (as := [(4, 0), (0, 1), (0, 0)]) (asC := [(4, 0), (0, 1), (0, 0)]) (LN := [(0, (4, 0)), (1, (0, 1)), (2, (0, 0))]) (stN := [(4, 0)]) (hsC := jpA_1519) (v := (0, 1)) (st2 := [(0, 1), (4, 0)]) (jA_247_464 (d := 0)) (by rfl) (by rfl) (by decide +kernel) (by rfl) (by rfl) (by omega) (by omega) (by omega) (by omega) rfl ?_
  refine jT_advK 1 (pcN := 19) (LN := [(0, (4, 0)), (1, (0, 1)), (2, (0, 0))]) (stN := [(0, 1), (0, 1), (4, 0)]) (hsN := jpA_1842) (c1 := 0) (s1 := 0) (c2 := 0) (s2 := 0) (by decide +kernel) ?_ (by omega) (by omega)
  refine jT_fR [0] 24 (y := 191) (pcN := 22) (dC := 0) (bc1 := 0) (bc2 := 0) (c1 := 0) (c2 := 0) (as := [(4, 0), (0, 1), (0, 1)]) (asC := [(4, 0), (0, 1), (0, 1)]) (LN := [(0, (4, 0)), (1, (0, 1)), (2, (0, 0))]) (stN := []) (hsC := [jgh]) (v := (0, 0)) (st2 := [(0, 0)]) (jA_191_38 (d := 0)) (by rfl) (by rfl) (by decide +kernel) (by rfl) (by rfl) (by omega) (by omega) (by omega) (by omega) rfl ?_
  refine jT_advK 5 (pcN := 29) (LN := [(0, (4, 0)), (1, (0, 1)), (2, (0, 0))]) (stN := [(0, 0), (0, 1), (4, 0), (4, 0)]) (hsN := jpA_1842) (c1 := 0) (s1 := 0) (c2 := 0) (s2 := 0) (by decide +kernel) ?_ (by omega) (by omega)
  refine jT_fB [0, 1, 2, 3, 4, 5, 6, 7, 8, 9, 10, 11, 12, 13, 14, 15] 24 (y := 248) (pcN := 32) (dC := 3) (bc1 := 0) (bc2 := 0) (c1 := 0) (c2 := 0) (as := [(4, 0), (0, 1), (0, 0)]) (asC := [(4, 0), (0, 1), (0, 0)]) (LN := [(0, (4, 0)), (1, (0, 1)), (2, (0, 0))]) (stN := [(4, 0)]) (hsC := jpA_1840) (hsD := jpA_1841) (v := (0, 1)) (st2 := [(0, 1), (4, 0)]) (hs2 := jpA_1843) (jA_248_466 (d := 0)) (by rfl) (by rfl) (by decide +kernel) (by rfl) (by rfl) (by omega) (by omega) (by omega) (by omega) rfl (by decide +kernel) ?_
  refine jT_advK 1 (pcN := 33) (LN := [(0, (4, 0)), (1, (0, 1)), (2, (0, 0))]) (stN := [(0, 2), (0, 1), (4, 0)]) (hsN := jpA_1843) (c1 := 0) (s1 := 0) (c2 := 0) (s2 := 0) (by decide +kernel) ?_ (by omega) (by omega)
  refine jT_fR [0] 24 (y := 191) (pcN := 36) (dC := 0) (bc1 := 0) (bc2 := 0) (c1 := 0) (c2 := 0) (as := [(4, 0), (0, 1), (0, 2)]) (asC := [(4, 0), (0, 1), (0, 2)]) (LN := [(0, (4, 0)), (1, (0, 1)), (2, (0, 0))]) (stN := []) (hsC := [jgh]) (v := (0, 0)) (st2 := [(0, 0)]) (jA_191_49 (d := 0)) (by rfl) (by rfl) (by decide +kernel) (by rfl) (by rfl) (by omega) (by omega) (by omega) (by omega) rfl ?_
  refine jT_advK 3 (pcN := 43) (LN := [(0, (4, 0)), (1, (0, 1)), (2, (0, 0))]) (stN := [(0, 1), (4, 0)]) (hsN := jpA_1843) (c1 := 0) (s1 := 0) (c2 := 0) (s2 := 0) (by decide +kernel) ?_ (by omega) (by omega)
  refine jT_fB [0, 1, 2, 3, 4, 5, 6, 7, 8, 9, 10, 11, 12, 13, 14, 15, 16, 17, 18, 19, 20, 21, 22, 23] 24 (y := 241) (pcN := 46) (dC := 1) (bc1 := 0) (bc2 := 0) (c1 := 0) (c2 := 0) (as := [(4, 0), (0, 1)]) (asC := [(4, 0), (0, 1)]) (LN := [(0, (4, 0)), (1, (0, 1)), (2, (0, 0))]) (stN := []) (hsC := jpA_1558) (hsD := jpA_1646) (v := (0, 1)) (st2 := [(0, 1)]) (hs2 := jpA_1857) (jA_241_369 (d := 0)) (by rfl) (by rfl) (by decide +kernel) (by rfl) (by rfl) (by omega) (by omega) (by omega) (by omega) rfl (by decide +kernel) ?_
  exact jT_ret rfl (by decide) (by show 24 ≤ 24; decide) (by omega) (by omega) ⟨rfl, rfl, rfl⟩
theorem jA_129_468 {xs : List Int} {d : Nat} {x2 : Int} (h_x2 : 1 ≤ x2 ∧ x2 ≤ 2147483647) : jT xs (d + 1) 129 23 0 [(0, (4, 0)), (1, (0, 1)), (2, (0, x2))] [] jpA_1845 1 6 (fun k v hsN => k = 1 ∧ v = (0, 0) ∧ hsN = jpA_1845 ++ []) := by
  refine jT_xaload_n (v := (4, 0)) (pcN := 1) jI_129_0 rfl rfl rfl ?_
  refine jT_xiload_n (v := (0, 1)) (pcN := 2) jI_129_1 rfl rfl rfl ?_
  refine jT_xiconst (k := 4) (pcN := 3) jI_129_2 rfl ?_
  refine jT_fR [0] 23 (y := 115) (pcN := 6) (dC := 0) (bc1 := 0) (bc2 := 0) (c1 := 1) (c2 := 6) (as := [(4, 0), (0, 1), (0, 4)]) (asC := [(4, 0), (0, 1), (0, 4)]) (LN := [(0, (4, 0)), (1, (0, 1)), (2, (0, x2))]) (stN := []) (hsC := [jgh]) (v := (9, 0)) (st2 := []) (jA_115_356 (d := 0)) (by rfl) (by rfl) (by decide +kernel) (by rfl) (by rfl) (by omega) (by omega) (by omega) (by omega) rfl ?_
  refine jT_xaload_n (v := (4, 0)) (pcN := 7) jI_129_6 rfl rfl rfl ?_
  refine jT_xgetf (a := 0) (t := 1) (ci := 13) (fi := 11) (c := jzA_5) (v := (4, 11)) (pcN := 10) jI_129_7 rfl rfl rfl rfl rfl rfl rfl ?_
  refine jT_xiload_n (v := (0, 1)) (pcN := 11) jI_129_10 rfl rfl rfl ?_
  refine jT_fR [11, 12, 13, 14, 15, 16, 17, 18, 19, 20] 23 (y := 56) (pcN := 14) (dC := 0) (bc1 := 0) (bc2 := 0) (c1 := 1) (c2 := 6) (as := [(4, 11), (0, 1)]) (asC := [(4, 0), (0, 1)]) (LN := [(0, (4, 0)), (1, (0, 1)), (2, (0, x2))]) (stN := []) (hsC := jpA_1446) (v := (4, 7)) (st2 := [(4, 18)]) (jA_56_357 (d := 0)) (by rfl) (by rfl) (by decide +kernel) (by rfl) (by rfl) (by omega) (by omega) (by omega) (by omega) rfl ?_
  refine jT_xastore_n (v := (4, 18)) (LN := [(3, (4, 18)), (0, (4, 0)), (1, (0, 1)), (2, (0, x2))]) (pcN := 15) jI_129_14 rfl rfl rfl rfl ?_
  refine jT_xaload_n (v := (4, 0)) (pcN := 16) jI_129_15 rfl rfl rfl ?_
  refine jT_xiload_n (v := (0, x2)) (pcN := 17) jI_129_16 rfl rfl rfl ?_
  refine jT_xaload_n (v := (4, 18)) (pcN := 18) jI_129_17 rfl rfl rfl ?_
  refine jT_fR [18, 21, 22] 23 (y := 29) (pcN := 21) (dC := 0) (bc1 := 0) (bc2 := 0) (c1 := 1) (c2 := 6) (as := [(4, 18)]) (asC := [(4, 0)]) (LN := [(3, (4, 18)), (0, (4, 0)), (1, (0, 1)), (2, (0, x2))]) (stN := [(0, x2), (4, 0)]) (hsC := [(7, [(4, 1), (4, (-1)), (4, (-1))], []), (114, [], [2]), jgh]) (v := (0, 1)) (st2 := [(0, 1), (0, x2), (4, 0)]) (jA_29_416 (d := 0)) (by rfl) (by rfl) (by decide +kernel) (by rfl) (by rfl) (by omega) (by omega) (by omega) (by omega) rfl ?_
  exact jT_fX [0] 23 (y := 115) (pcN := 24) (dC := 0) (bc1 := 1) (bc2 := 6) (as := [(4, 0), (0, x2), (0, 1)]) (asC := [(4, 0), (0, x2), (0, 1)]) (LN := [(3, (4, 18)), (0, (4, 0)), (1, (0, 1)), (2, (0, x2))]) (stN := []) (hsC := [jgh]) (e := 0) (jA_115_453 (d := 0) (by omega)) (by rfl) (by rfl) (by decide +kernel) (by rfl) (by rfl) (by omega) (by omega) (by omega) (by omega) ⟨rfl, ⟨rfl, rfl, rfl⟩⟩
theorem jA_337_469 {xs : List Int} {d : Nat} {x2 : Int} (h_x2 : 1 ≤ x2 ∧ x2 ≤ 2147483647) : jT xs (d + 2) 337 24 0 [(0, (4, 0)), (1, (0, 1)), (2, (0, x2)), (3, (4, 1))] [] jpA_1846 1 6 (fun k v hsN => k = 0 ∧ v = (0, 1) ∧ hsN = jpA_1846 ++ []) := by
  refine jT_xaload_n (v := (4, 1)) (pcN := 1) jI_337_0 rfl rfl rfl ?_
  refine jT_xiconst (k := 0) (pcN := 2) jI_337_1 rfl ?_
  refine jT_xaload_n (v := (4, 0)) (pcN := 3) jI_337_2 rfl rfl rfl ?_
  refine jT_xiload_n (v := (0, 1)) (pcN := 4) jI_337_3 rfl rfl rfl ?_
  refine jT_xiload_n (v := (0, x2)) (pcN := 5) jI_337_4 rfl rfl rfl ?_
  exact jT_fX [0, 2, 3, 4, 5, 6, 7, 8, 9, 10, 11, 12, 13, 14, 15, 16, 17, 18, 19, 20, 21, 22, 23] 24 (y := 129) (pcN := 8) (dC := 1) (bc1 := 1) (bc2 := 6) (as := [(4, 0), (0, 1), (0, x2)]) (asC := [(4, 0), (0, 1), (0, x2)]) (LN := [(0, (4, 0)), (1, (0, 1)), (2, (0, x2)), (3, (4, 1))]) (stN := [(0, 0), (4, 1)]) (hsC := jpA_1845) (e := 0) (jA_129_468 (d := 0) (by omega)) (by rfl) (by rfl) (by decide +kernel) (by rfl) (by rfl) (by omega) (by omega) (by omega) (by omega) (show _ from ⟨rfl, rfl, rfl⟩)
theorem jA_247_470 {xs : List Int} {d : Nat} {x2 : Int} (h_x2 : 1 ≤ x2 ∧ x2 ≤ 2147483647) : jT xs (d + 1) 247 16 0 [(0, (4, 0)), (1, (0, 1)), (2, (0, x2))] [] jpA_1519 0 0 (fun k v hsN => k = 0 ∧ v = (0, 0) ∧ hsN = jpA_1519 ++ []) := by
  refine jT_xiload_n (v := (0, x2)) (pcN := 1) jI_247_0 rfl rfl rfl ?_
  refine jT_xi2l (x := x2) (z := x2) (pcN := 2) jI_247_1 rfl (jw_idd (by omega) (by omega)) rfl ?_
  refine jT_xlconst (z := 0) (pcN := 3) jI_247_2 rfl rfl ?_
  refine jT_xaload_n (v := (4, 0)) (pcN := 4) jI_247_3 rfl rfl rfl ?_
  refine jT_xiload_n (v := (0, 1)) (pcN := 5) jI_247_4 rfl rfl rfl ?_
  refine jT_fR [0, 1, 2, 3, 4, 5, 6, 7, 8, 9, 10, 11, 12, 13, 14, 15] 16 (y := 245) (pcN := 8) (dC := 0) (bc1 := 0) (bc2 := 0) (c1 := 0) (c2 := 0) (as := [(4, 0), (0, 1)]) (asC := [(4, 0), (0, 1)]) (LN := [(0, (4, 0)), (1, (0, 1)), (2, (0, x2))]) (stN := [(1, 0), (1, x2)]) (hsC := jpA_1519) (v := (0, 1)) (st2 := [(0, 1), (1, 0), (1, x2)]) (jA_245_363 (d := 0)) (by rfl) (by rfl) (by decide +kernel) (by rfl) (by rfl) (by omega) (by omega) (by omega) (by omega) rfl ?_
  refine jT_xiconst (k := 1) (pcN := 9) jI_247_8 rfl ?_
  refine jT_xisub (x := 1) (y := 1) (z := 0) (pcN := 10) jI_247_9 rfl (by decide) rfl ?_
  refine jT_xi2l (x := 0) (z := 0) (pcN := 11) jI_247_10 rfl (by decide +kernel) rfl ?_
  refine jT_fR [] 16 (y := 189) (pcN := 14) (dC := 0) (bc1 := 0) (bc2 := 0) (c1 := 0) (c2 := 0) (as := [(1, x2), (1, 0), (1, 0)]) (asC := [(1, x2), (1, 0), (1, 0)]) (LN := [(0, (4, 0)), (1, (0, 1)), (2, (0, x2))]) (stN := []) (hsC := []) (v := (0, 0)) (st2 := [(0, 0)]) (jT_in_hi (d := 0) (v := x2) (lo := 0) (hi := 0) (by omega) (by omega) (by omega) (by omega) (by omega)) (by rfl) (by rfl) (by decide +kernel) (by rfl) (by rfl) (by omega) (by omega) (by omega) (by omega) rfl ?_
  exact jT_ret rfl (by decide) (by show 16 ≤ 16; decide) (by omega) (by omega) ⟨rfl, rfl, rfl⟩
theorem jA_246_471 {xs : List Int} {d : Nat} {x2 : Int} (h_x2 : 1 ≤ x2 ∧ x2 ≤ 2147483647) : jT xs (d + 2) 246 16 0 [(0, (4, 0)), (1, (0, 1)), (2, (0, x2))] [] jpA_1519 0 0 (fun k v hsN => k = 0 ∧ v = (0, 0) ∧ hsN = jpA_1820) := by
  refine jT_xaload_n (v := (4, 0)) (pcN := 1) jI_246_0 rfl rfl rfl ?_
  refine jT_xiload_n (v := (0, 1)) (pcN := 2) jI_246_1 rfl rfl rfl ?_
  refine jT_fR [] 16 (y := 238) (pcN := 5) (dC := 1) (bc1 := 0) (bc2 := 0) (c1 := 0) (c2 := 0) (as := [(0, 1)]) (asC := [(0, 1)]) (LN := [(0, (4, 0)), (1, (0, 1)), (2, (0, x2))]) (stN := [(4, 0)]) (hsC := []) (v := (0, 1)) (st2 := [(0, 1), (4, 0)]) (jA_238_362 (d := 0)) (by rfl) (by rfl) (by decide +kernel) (by rfl) (by rfl) (by omega) (by omega) (by omega) (by omega) rfl ?_
  refine jT_fR [0, 1, 2, 3, 4, 5, 6, 7, 8, 9, 10, 11, 12, 13, 14, 15] 16 (y := 190) (pcN := 8) (dC := 1) (bc1 := 0) (bc2 := 0) (c1 := 0) (c2 := 0) (as := [(4, 0), (0, 1)]) (asC := [(4, 0), (0, 1)]) (LN := [(0, (4, 0)), (1, (0, 1)), (2, (0, x2))]) (stN := []) (hsC := jpA_22) (v := (0, 0)) (st2 := [(0, 0)]) (jA_190_39 (d := 0)) (by rfl) (by rfl) (by decide +kernel) (by rfl) (by rfl) (by omega) (by omega) (by omega) (by omega) rfl ?_
  refine jT_xifF (t := 39) (pcN := 11) jI_246_8 rfl (by decide +kernel) rfl rfl ?_
  refine jT_xaload_n (v := (4, 0)) (pcN := 12) jI_246_11 rfl rfl rfl ?_
  refine jT_xaload_n (v := (4, 0)) (pcN := 13) jI_246_12 rfl rfl rfl ?_
  refine jT_xiload_n (v := (0, 1)) (pcN := 14) jI_246_13 rfl rfl rfl ?_
  refine jT_xiload_n (v := (0, x2)) (pcN := 15) jI_246_14 rfl rfl rfl ?_
  refine jT_fR [0, 1, 2, 3, 4, 5, 6, 7, 8, 9, 10, 11, 12, 13, 14, 15] 16 (y := 247) (pcN := 18) (dC := 1) (bc1 := 0) (bc2 := 0) (c1 := 0) (c2 := 0) (as := [(4, 0), (0, 1), (0, x2)]) (asC := [(4, 0), (0, 1), (0, x2)]) (LN := [(0, (4, 0)), (1, (0, 1)), (2, (0, x2))]) (stN := [(4, 0)]) (hsC := jpA_1519) (v := (0, 0)) (st2 := [(0, 0), (4, 0)]) (jA_247_470 (d := 0) (by omega)) (by rfl) (by rfl) (by decide +kernel) (by rfl) (by rfl) (by omega) (by omega) (by omega) (by omega) rfl ?_
  refine jT_xiconst (k := 1) (pcN := 19) jI_246_18 rfl ?_
  refine jT_fB [0, 1, 2, 3, 4, 5, 6, 7, 8, 9, 10, 11, 12, 13, 14, 15] 16 (y := 191) (pcN := 22) (dC := 0) (bc1 := 0) (bc2 := 0) (c1 := 0) (c2 := 0) (as := [(4, 0), (0, 0), (0, 1)]) (asC := [(4, 0), (0, 0), (0, 1)]) (LN := [(0, (4, 0)), (1, (0, 1)), (2, (0, x2))]) (stN := []) (hsC := jpA_22) (hsD := jpA_20) (v := (0, 1)) (st2 := [(0, 1)]) (hs2 := jpA_1820) (jA_191_5 (d := 0)) (by rfl) (by rfl) (by decide +kernel) (by rfl) (by rfl) (by omega) (by omega) (by omega) (by omega) rfl (by decide +kernel) ?_
  refine jT_xifT (pcN := 39) jI_246_22 rfl (by decide +kernel) rfl ?_
  refine jT_xiconst (k := 0) (pcN := 40) jI_246_39 rfl ?_
  exact jT_ret rfl (by decide) (by show 16 ≤ 16; decide) (by omega) (by omega) ⟨rfl, rfl, rfl⟩
def jpA_1858 : List JC := [jzA_5, jgh, jgh, jgh, jgh, jgh, jgh, jgh, jgh, jgh, jgh, jzA_88, jgh, (117, [], [17, 18, 19, 20]), jgh, jgh, jgh, jgh, jgh, (7, [(4, 21), (4, (-1)), (4, (-1))], []), jgh, (114, [], [22]), jgh]
theorem jA_129_472 {xs : List Int} {d : Nat} {x2 : Int} (h_x2 : (-2147483648) ≤ x2 ∧ x2 ≤ (-1)) : jT xs (d + 1) 129 23 0 [(0, (4, 0)), (1, (0, 2)), (2, (0, x2))] [] jpA_1858 1 6 (fun k v hsN => k = 1 ∧ v = (0, 0) ∧ hsN = jpA_1858 ++ []) := by
  refine jT_xaload_n (v := (4, 0)) (pcN := 1) jI_129_0 rfl rfl rfl ?_
  refine jT_xiload_n (v := (0, 2)) (pcN := 2) jI_129_1 rfl rfl rfl ?_
  refine jT_xiconst (k := 4) (pcN := 3) jI_129_2 rfl ?_
  refine jT_fR [0] 23 (y := 115) (pcN := 6) (dC := 0) (bc1 := 0) (bc2 := 0) (c1 := 1) (c2 := 6) (as := [(4, 0), (0, 2), (0, 4)]) (asC := [(4, 0), (0, 2), (0, 4)]) (LN := [(0, (4, 0)), (1, (0, 2)), (2, (0, x2))]) (stN := []) (hsC := [jgh]) (v := (9, 0)) (st2 := []) (jA_115_372 (d := 0)) (by rfl) (by rfl) (by decide +kernel) (by rfl) (by rfl) (by omega) (by omega) (by omega) (by omega) rfl ?_
  refine jT_xaload_n (v := (4, 0)) (pcN := 7) jI_129_6 rfl rfl rfl ?_
  refine jT_xgetf (a := 0) (t := 1) (ci := 13) (fi := 11) (c := jzA_5) (v := (4, 11)) (pcN := 10) jI_129_7 rfl rfl rfl rfl rfl rfl rfl ?_
  refine jT_xiload_n (v := (0, 2)) (pcN := 11) jI_129_10 rfl rfl rfl ?_
  refine jT_fR [11, 12, 13, 14, 15, 16, 17, 18, 19, 20] 23 (y := 56) (pcN := 14) (dC := 0) (bc1 := 0) (bc2 := 0) (c1 := 1) (c2 := 6) (as := [(4, 11), (0, 2)]) (asC := [(4, 0), (0, 2)]) (LN := [(0, (4, 0)), (1, (0, 2)), (2, (0, x2))]) (stN := []) (hsC := jpA_1446) (v := (4, 8)) (st2 := [(4, 19)]) (jA_56_373 (d := 0)) (by rfl) (by rfl) (by decide +kernel) (by rfl) (by rfl) (by omega) (by omega) (by omega) (by omega) rfl ?_
  refine jT_xastore_n (v := (4, 19)) (LN := [(3, (4, 19)), (0, (4, 0)), (1, (0, 2)), (2, (0, x2))]) (pcN := 15) jI_129_14 rfl rfl rfl rfl ?_
  refine jT_xaload_n (v := (4, 0)) (pcN := 16) jI_129_15 rfl rfl rfl ?_
  refine jT_xiload_n (v := (0, x2)) (pcN := 17) jI_129_16 rfl rfl rfl ?_
  refine jT_xaload_n (v := (4, 19)) (pcN := 18) jI_129_17 rfl rfl rfl ?_
  refine jT_fR [19, 21, 22] 23 (y := 29) (pcN := 21) (dC := 0) (bc1 := 0) (bc2 := 0) (c1 := 1) (c2 := 6) (as := [(4, 19)]) (asC := [(4, 0)]) (LN := [(3, (4, 19)), (0, (4, 0)), (1, (0, 2)), (2, (0, x2))]) (stN := [(0, x2), (4, 0)]) (hsC := [(7, [(4, 1), (4, (-1)), (4, (-1))], []), (114, [], [2]), jgh]) (v := (0, 1)) (st2 := [(0, 1), (0, x2), (4, 0)]) (jA_29_416 (d := 0)) (by rfl) (by rfl) (by decide +kernel) (by rfl) (by rfl) (by omega) (by omega) (by omega) (by omega) rfl ?_
  exact jT_fX [0] 23 (y := 115) (pcN := 24) (dC := 0) (bc1 := 1) (bc2 := 6) (as := [(4, 0), (0, x2), (0, 1)]) (asC := [(4, 0), (0, x2), (0, 1)]) (LN := [(3, (4, 19)), (0, (4, 0)), (1, (0, 2)), (2, (0, x2))]) (stN := []) (hsC := [jgh]) (e := 0) (jA_115_438 (d := 0) (by omega)) (by rfl) (by rfl) (by decide +kernel) (by rfl) (by rfl) (by omega) (by omega) (by omega) (by omega) ⟨rfl, ⟨rfl, rfl, rfl⟩⟩
def jpA_1859 : List JC := [jzA_14, jgh, jgh, jgh, jgh, jgh, jgh, jgh, jgh, jgh, jgh, jgh, jzA_77, jgh, (117, [], [18, 19, 20, 21]), jgh, jgh, jgh, jgh, jgh, (7, [(4, 22), (4, (-1)), (4, (-1))], []), jgh, (114, [], [23]), jgh]
theorem jA_337_473 {xs : List Int} {d : Nat} {x2 : Int} (h_x2 : (-2147483648) ≤ x2 ∧ x2 ≤ (-1)) : jT xs (d + 2) 337 24 0 [(0, (4, 0)), (1, (0, 2)), (2, (0, x2)), (3, (4, 1))] [] jpA_1859 1 6 (fun k v hsN => k = 0 ∧ v = (0, 1) ∧ hsN = jpA_1859 ++ []) := by
  refine jT_xaload_n (v := (4, 1)) (pcN := 1) jI_337_0 rfl rfl rfl ?_
  refine jT_xiconst (k := 0) (pcN := 2) jI_337_1 rfl ?_
  refine jT_xaload_n (v := (4, 0)) (pcN := 3) jI_337_2 rfl rfl rfl ?_
  refine jT_xiload_n (v := (0, 2)) (pcN := 4) jI_337_3 rfl rfl rfl ?_
  refine jT_xiload_n (v := (0, x2)) (pcN := 5) jI_337_4 rfl rfl rfl ?_
  exact jT_fX [0, 2, 3, 4, 5, 6, 7, 8, 9, 10, 11, 12, 13, 14, 15, 16, 17, 18, 19, 20, 21, 22, 23] 24 (y := 129) (pcN := 8) (dC := 1) (bc1 := 1) (bc2 := 6) (as := [(4, 0), (0, 2), (0, x2)]) (asC := [(4, 0), (0, 2), (0, x2)]) (LN := [(0, (4, 0)), (1, (0, 2)), (2, (0, x2)), (3, (4, 1))]) (stN := [(0, 0), (4, 1)]) (hsC := jpA_1858) (e := 0) (jA_129_472 (d := 0) (by omega)) (by rfl) (by rfl) (by decide +kernel) (by rfl) (by rfl) (by omega) (by omega) (by omega) (by omega) (show _ from ⟨rfl, rfl, rfl⟩)
theorem jA_247_474 {xs : List Int} {d : Nat} {x2 : Int} (h_x2 : (-2147483648) ≤ x2 ∧ x2 ≤ (-1)) : jT xs (d + 1) 247 16 0 [(0, (4, 0)), (1, (0, 2)), (2, (0, x2))] [] jpA_1519 0 0 (fun k v hsN => k = 0 ∧ v = (0, 0) ∧ hsN = jpA_1519 ++ []) := by
  refine jT_xiload_n (v := (0, x2)) (pcN := 1) jI_247_0 rfl rfl rfl ?_
  refine jT_xi2l (x := x2) (z := x2) (pcN := 2) jI_247_1 rfl (jw_idd (by omega) (by omega)) rfl ?_
  refine jT_xlconst (z := 0) (pcN := 3) jI_247_2 rfl rfl ?_
  refine jT_xaload_n (v := (4, 0)) (pcN := 4) jI_247_3 rfl rfl rfl ?_
  refine jT_xiload_n (v := (0, 2)) (pcN := 5) jI_247_4 rfl rfl rfl ?_
  refine jT_fR [0, 1, 2, 3, 4, 5, 6, 7, 8, 9, 10, 11, 12, 13, 14, 15] 16 (y := 245) (pcN := 8) (dC := 0) (bc1 := 0) (bc2 := 0) (c1 := 0) (c2 := 0) (as := [(4, 0), (0, 2)]) (asC := [(4, 0), (0, 2)]) (LN := [(0, (4, 0)), (1, (0, 2)), (2, (0, x2))]) (stN := [(1, 0), (1, x2)]) (hsC := jpA_1519) (v := (0, 1)) (st2 := [(0, 1), (1, 0), (1, x2)]) (jA_245_379 (d := 0)) (by rfl) (by rfl) (by decide +kernel) (by rfl) (by rfl) (by omega) (by omega) (by omega) (by omega) rfl ?_
  refine jT_xiconst (k := 1) (pcN := 9) jI_247_8 rfl ?_
  refine jT_xisub (x := 1) (y := 1) (z := 0) (pcN := 10) jI_247_9 rfl (by decide) rfl ?_
  refine jT_xi2l (x := 0) (z := 0) (pcN := 11) jI_247_10 rfl (by decide +kernel) rfl ?_
  refine jT_fR [] 16 (y := 189) (pcN := 14) (dC := 0) (bc1 := 0) (bc2 := 0) (c1 := 0) (c2 := 0) (as := [(1, x2), (1, 0), (1, 0)]) (asC := [(1, x2), (1, 0), (1, 0)]) (LN := [(0, (4, 0)), (1, (0, 2)), (2, (0, x2))]) (stN := []) (hsC := []) (v := (0, 0)) (st2 := [(0, 0)]) (jT_in_lo (d := 0) (v := x2) (lo := 0) (hi := 0) (by omega) (by omega) (by omega) (by omega)) (by rfl) (by rfl) (by decide +kernel) (by rfl) (by rfl) (by omega) (by omega) (by omega) (by omega) rfl ?_
  exact jT_ret rfl (by decide) (by show 16 ≤ 16; decide) (by omega) (by omega) ⟨rfl, rfl, rfl⟩
theorem jA_246_475 {xs : List Int} {d : Nat} {x2 : Int} (h_x2 : (-2147483648) ≤ x2 ∧ x2 ≤ (-1)) : jT xs (d + 2) 246 16 0 [(0, (4, 0)), (1, (0, 2)), (2, (0, x2))] [] jpA_1519 0 0 (fun k v hsN => k = 0 ∧ v = (0, 0) ∧ hsN = jpA_1820) := by
  refine jT_xaload_n (v := (4, 0)) (pcN := 1) jI_246_0 rfl rfl rfl ?_
  refine jT_xiload_n (v := (0, 2)) (pcN := 2) jI_246_1 rfl rfl rfl ?_
  refine jT_fR [] 16 (y := 238) (pcN := 5) (dC := 1) (bc1 := 0) (bc2 := 0) (c1 := 0) (c2 := 0) (as := [(0, 2)]) (asC := [(0, 2)]) (LN := [(0, (4, 0)), (1, (0, 2)), (2, (0, x2))]) (stN := [(4, 0)]) (hsC := []) (v := (0, 1)) (st2 := [(0, 1), (4, 0)]) (jA_238_378 (d := 0)) (by rfl) (by rfl) (by decide +kernel) (by rfl) (by rfl) (by omega) (by omega) (by omega) (by omega) rfl ?_
  refine jT_fR [0, 1, 2, 3, 4, 5, 6, 7, 8, 9, 10, 11, 12, 13, 14, 15] 16 (y := 190) (pcN := 8) (dC := 1) (bc1 := 0) (bc2 := 0) (c1 := 0) (c2 := 0) (as := [(4, 0), (0, 1)]) (asC := [(4, 0), (0, 1)]) (LN := [(0, (4, 0)), (1, (0, 2)), (2, (0, x2))]) (stN := []) (hsC := jpA_22) (v := (0, 0)) (st2 := [(0, 0)]) (jA_190_39 (d := 0)) (by rfl) (by rfl) (by decide +kernel) (by rfl) (by rfl) (by omega) (by omega) (by omega) (by omega) rfl ?_
  refine jT_xifF (t := 39) (pcN := 11) jI_246_8 rfl (by decide +kernel) rfl rfl ?_
  refine jT_xaload_n (v := (4, 0)) (pcN := 12) jI_246_11 rfl rfl rfl ?_
  refine jT_xaload_n (v := (4, 0)) (pcN := 13) jI_246_12 rfl rfl rfl ?_
  refine jT_xiload_n (v := (0, 2)) (pcN := 14) jI_246_13 rfl rfl rfl ?_
  refine jT_xiload_n (v := (0, x2)) (pcN := 15) jI_246_14 rfl rfl rfl ?_
  refine jT_fR [0, 1, 2, 3, 4, 5, 6, 7, 8, 9, 10, 11, 12, 13, 14, 15] 16 (y := 247) (pcN := 18) (dC := 1) (bc1 := 0) (bc2 := 0) (c1 := 0) (c2 := 0) (as := [(4, 0), (0, 2), (0, x2)]) (asC := [(4, 0), (0, 2), (0, x2)]) (LN := [(0, (4, 0)), (1, (0, 2)), (2, (0, x2))]) (stN := [(4, 0)]) (hsC := jpA_1519) (v := (0, 0)) (st2 := [(0, 0), (4, 0)]) (jA_247_474 (d := 0) (by omega)) (by rfl) (by rfl) (by decide +kernel) (by rfl) (by rfl) (by omega) (by omega) (by omega) (by omega) rfl ?_
  refine jT_xiconst (k := 1) (pcN := 19) jI_246_18 rfl ?_
  refine jT_fB [0, 1, 2, 3, 4, 5, 6, 7, 8, 9, 10, 11, 12, 13, 14, 15] 16 (y := 191) (pcN := 22) (dC := 0) (bc1 := 0) (bc2 := 0) (c1 := 0) (c2 := 0) (as := [(4, 0), (0, 0), (0, 1)]) (asC := [(4, 0), (0, 0), (0, 1)]) (LN := [(0, (4, 0)), (1, (0, 2)), (2, (0, x2))]) (stN := []) (hsC := jpA_22) (hsD := jpA_20) (v := (0, 1)) (st2 := [(0, 1)]) (hs2 := jpA_1820) (jA_191_5 (d := 0)) (by rfl) (by rfl) (by decide +kernel) (by rfl) (by rfl) (by omega) (by omega) (by omega) (by omega) rfl (by decide +kernel) ?_
  refine jT_xifT (pcN := 39) jI_246_22 rfl (by decide +kernel) rfl ?_
  refine jT_xiconst (k := 0) (pcN := 40) jI_246_39 rfl ?_
  exact jT_ret rfl (by decide) (by show 16 ≤ 16; decide) (by omega) (by omega) ⟨rfl, rfl, rfl⟩
def jpA_1860 : List JC := [jzA_5, jgh, jgh, jgh, jgh, jgh, jgh, jgh, jgh, jgh, jzA_79, jzA_88, jgh, (117, [], [17, 18, 19, 20]), jgh, jgh, jgh, jgh, jgh, (7, [(4, 21), (4, (-1)), (4, (-1))], []), jgh, (114, [], [22]), (4, [(4, 23), (1, 1)], []), (101, [], [0, 0, 0, 0, 0, 0])]
def jpA_1861 : List JC := [jzA_5, jgh, jgh, jgh, jgh, jgh, jgh, jgh, jgh, jgh, jzA_79, jzA_88, jgh, (117, [], [17, 18, 19, 20]), jgh, jgh, jgh, jgh, jgh, (7, [(4, 21), (4, (-1)), (4, (-1))], []), jgh, (114, [], [22]), (4, [(4, 23), (1, 1)], []), (101, [], [0, 0, 0, 0, 0, 0]), (114, [], [(-1)])]
def jpA_1862 : List JC := [jzA_5, jgh, jgh, jgh, jgh, jgh, jgh, jgh, jgh, jgh, jzA_79, jzA_88, jgh, (117, [], [17, 18, 19, 20]), jgh, jgh, jgh, jgh, jgh, (7, [(4, 21), (4, (-1)), (4, (-1))], []), jgh, (114, [], [22]), (4, [(4, 23), (1, 1)], []), (101, [], [0, 0, 0, 0, 0, 0]), (114, [], [(-1)]), (101, [], [0, 0, 0, 0, 0, 0]), (4, [(4, 25), (1, 1)], [])]
def jpA_1863 : List JC := [jzA_5, jgh, jgh, jgh, jgh, jgh, jgh, jgh, jgh, jgh, jzA_79, jzA_88, jgh, (117, [], [17, 18, 19, 20]), jgh, jgh, jgh, jgh, jgh, (7, [(4, 21), (4, (-1)), (4, (-1))], []), jgh, (114, [], [22]), (4, [(4, 23), (1, 1)], []), (101, [], [0, 0, 0, 0, 0, 0]), (114, [], [26]), (101, [], [0, 0, 0, 0, 0, 0]), (4, [(4, 25), (1, 1)], [])]
def jpA_1864 : List JC := [jzA_5, jgh, jgh, jgh, jgh, jgh, jgh, jgh, jgh, jgh, jzA_79, jzA_88, jgh, (117, [], [17, 18, 19, 20]), jgh, jgh, jgh, jgh, jgh, (7, [(4, 21), (4, (-1)), (4, (-1))], []), jgh, (114, [], [22]), (4, [(4, 23), (1, 1)], []), (101, [], [0, 0, 0, 0, 0, 0]), (114, [], [26]), (101, [], [0, 0, 0, 0, 0, 0]), (4, [(4, 25), (1, 1)], []), (114, [], [26]), (7, [(4, 27), (4, (-1)), (4, (-1))], [])]
def jpA_1865 : List JC := [jzA_5, jgh, jgh, jgh, jgh, jgh, jgh, jgh, jgh, jgh, jzA_79, jzA_88, jgh, (117, [], [17, 18, 19, 20]), jgh, jgh, jgh, jgh, jgh, (7, [(4, 21), (4, (-1)), (4, (-1))], []), jgh, (114, [], [22]), (4, [(4, 23), (1, 1)], []), (101, [], [0, 0, 0, 0, 0, 0]), (114, [], [26]), (101, [], [0, 0, 0, 0, 0, 0]), (4, [(4, 25), (1, 1)], []), (114, [], [26]), (7, [(4, 27), (4, (-1)), (4, (-1))], []), (117, [], [17, 18, 28, 20]), jzA_1831]
def jpA_1866 : List JC := [jzA_1833, jgh, jgh, jgh, jgh, jgh, jgh, jgh, jgh, jgh, jzA_102, jzA_88, jgh, (117, [], [17, 18, 19, 20]), jgh, jgh, jgh, jgh, jgh, (7, [(4, 21), (4, (-1)), (4, (-1))], []), jgh, (114, [], [22]), (4, [(4, 23), (1, 1)], []), (101, [], [0, 0, 0, 0, 0, 0]), (114, [], [26]), (101, [], [0, 0, 0, 0, 0, 0]), (4, [(4, 25), (1, 1)], []), (114, [], [26]), (7, [(4, 27), (4, (-1)), (4, (-1))], []), (117, [], [17, 18, 28, 20]), jzA_1831]
theorem jA_129_476 {xs : List Int} {d : Nat} : jT xs (d + 4) 129 24 0 [(0, (4, 0)), (1, (0, 2)), (2, (0, 0))] [] jpA_1860 7 22 (fun k v hsN => k = 0 ∧ v = (0, 1) ∧ hsN = jpA_1866) := by
  refine jT_advK 3 (pcN := 3) (LN := [(0, (4, 0)), (1, (0, 2)), (2, (0, 0))]) (stN := [(0, 4), (0, 2), (4, 0)]) (hsN := jpA_1860) (c1 := 0) (s1 := 0) (c2 := 7) (s2 := 22) (by decide +kernel) ?_ (by omega) (by omega)
  refine jT_fR [0] 24 (y := 115) (pcN := 6) (dC := 0) (bc1 := 0) (bc2 := 0) (c1 := 7) (c2 := 22) (as := [(4, 0), (0, 2), (0, 4)]) (asC := [(4, 0), (0, 2), (0, 4)]) (LN := [(0, (4, 0)), (1, (0, 2)), (2, (0, 0))]) (stN := []) (hsC := [jgh]) (v := (9, 0)) (st2 := []) (jA_115_372 (d := 0)) (by rfl) (by rfl) (by decide +kernel) (by rfl) (by rfl) (by omega) (by omega) (by omega) (by omega) rfl ?_
  refine jT_advK 3 (pcN := 11) (LN := [(0, (4, 0)), (1, (0, 2)), (2, (0, 0))]) (stN := [(0, 2), (4, 11)]) (hsN := jpA_1860) (c1 := 0) (s1 := 0) (c2 := 7) (s2 := 22) (by decide +kernel) ?_ (by omega) (by omega)
  refine jT_fR [11, 12, 13, 14, 15, 16, 17, 18, 19, 20] 24 (y := 56) (pcN := 14) (dC := 0) (bc1 := 0) (bc2 := 0) (c1 := 7) (c2 := 22) (as := [(4, 11), (0, 2)]) (asC := [(4, 0), (0, 2)]) (LN := [(0, (4, 0)), (1, (0, 2)), (2, (0, 0))]) (stN := []) (hsC := jpA_1446) (v := (4, 8)) (st2 := [(4, 19)]) (jA_56_373 (d := 0)) (by rfl) (by rfl) (by decide +kernel) (by rfl) (by rfl) (by omega) (by omega) (by omega) (by omega) rfl ?_
  refine jT_advK 4 (pcN := 18) (LN := [(3, (4, 19)), (0, (4, 0)), (1, (0, 2)), (2, (0, 0))]) (stN := [(4, 19), (0, 0), (4, 0)]) (hsN := jpA_1860) (c1 := 0) (s1 := 0) (c2 := 7) (s2 := 22) (by decide +kernel) ?_ (by omega) (by omega)
  refine jT_fR [19, 21, 22] 24 (y := 29) (pcN := 21) (dC := 0) (bc1 := 0) (bc2 := 0) (c1 := 7) (c2 := 22) (as := [(4, 19)]) (asC := [(4, 0)]) (LN := [(3, (4, 19)), (0, (4, 0)), (1, (0, 2)), (2, (0, 0))]) (stN := [(0, 0), (4, 0)]) (hsC := [(7, [(4, 1), (4, (-1)), (4, (-1))], []), (114, [], [2]), jgh]) (v := (0, 1)) (st2 := [(0, 1), (0, 0), (4, 0)]) (jA_29_416 (d := 0)) (by rfl) (by rfl) (by decide +kernel) (by rfl) (by rfl) (by omega) (by omega) (by omega) (by omega) rfl ?_
  refine jT_fR [0] 24 (y := 115) (pcN := 24) (dC := 0) (bc1 := 0) (bc2 := 0) (c1 := 7) (c2 := 22) (as := [(4, 0), (0, 0), (0, 1)]) (asC := [(4, 0), (0, 0), (0, 1)]) (LN := [(3, (4, 19)), (0, (4, 0)), (1, (0, 2)), (2, (0, 0))]) (stN := []) (hsC := [jgh]) (v := (9, 0)) (st2 := []) (jA_115_443 (d := 0)) (by rfl) (by rfl) (by decide +kernel) (by rfl) (by rfl) (by omega) (by omega) (by omega) (by omega) rfl ?_
  refine jT_advK 1 (pcN := 25) (LN := [(3, (4, 19)), (0, (4, 0)), (1, (0, 2)), (2, (0, 0))]) (stN := [(4, 19)]) (hsN := jpA_1860) (c1 := 0) (s1 := 0) (c2 := 7) (s2 := 22) (by decide +kernel) ?_ (by omega) (by omega)
  refine jT_fR [19, 21, 22] 24 (y := 29) (pcN := 28) (dC := 0) (bc1 := 0) (bc2 := 0) (c1 := 7) (c2 := 22) (as := [(4, 19)]) (asC := [(4, 0)]) (LN := [(3, (4, 19)), (0, (4, 0)), (1, (0, 2)), (2, (0, 0))]) (stN := []) (hsC := [(7, [(4, 1), (4, (-1)), (4, (-1))], []), (114, [], [2]), jgh]) (v := (0, 1)) (st2 := [(0, 1)]) (jA_29_416 (d := 0)) (by rfl) (by rfl) (by decide +kernel) (by rfl) (by rfl) (by omega) (by omega) (by omega) (by omega) rfl ?_
  refine jT_advK 13 (pcN := 52) (LN := [(5, (0, 0)), (4, (4, 24)), (3, (4, 19)), (0, (4, 0)), (1, (0, 2)), (2, (0, 0))]) (stN := [(0, 0), (0, 0), (4, 19), (0, 0), (4, 24)]) (hsN := jpA_1861) (c1 := 1) (s1 := 1) (c2 := 6) (s2 := 21) (by decide +kernel) ?_ (by omega) (by omega)
  refine jT_fA [19, 21, 22, 23] 25 (y := 32) (pcN := 55) (dC := 3) (bc1 := 2) (bc2 := 8) (c1 := 4) (c2 := 13) (as := [(4, 19), (0, 0), (0, 0)]) (asC := [(4, 0), (0, 0), (0, 0)]) (LN := [(5, (0, 0)), (4, (4, 24)), (3, (4, 19)), (0, (4, 0)), (1, (0, 2)), (2, (0, 0))]) (stN := [(0, 0), (4, 24)]) (hsC := jpA_1822) (ex := [(101, [], [0, 0, 0, 0, 0, 0]), (4, [(4, 4), (1, 1)], [])]) (v := (4, 5)) (st2 := [(4, 26), (0, 0), (4, 24)]) (hs2 := jpA_1862) (jA_32_444 (d := 0)) (by rfl) (by rfl) (by decide +kernel) (by rfl) (by rfl) (by omega) (by omega) (by omega) (by omega) rfl (by decide +kernel) ?_
  refine jT_advK 5 (pcN := 62) (LN := [(5, (0, 0)), (4, (4, 24)), (3, (4, 19)), (0, (4, 0)), (1, (0, 2)), (2, (0, 0))]) (stN := [(4, 26), (4, 0)]) (hsN := jpA_1863) (c1 := 0) (s1 := 0) (c2 := 4) (s2 := 13) (by decide +kernel) ?_ (by omega) (by omega)
  refine jT_fR [0, 26, 25] 27 (y := 117) (pcN := 65) (dC := 2) (bc1 := 0) (bc2 := 0) (c1 := 4) (c2 := 13) (as := [(4, 0), (4, 26)]) (asC := [(4, 0), (4, 1)]) (LN := [(5, (0, 0)), (4, (4, 24)), (3, (4, 19)), (0, (4, 0)), (1, (0, 2)), (2, (0, 0))]) (stN := []) (hsC := [jgh, (4, [(4, 2), (1, 1)], []), (101, [], [0, 0, 0, 0, 0, 0])]) (v := (9, 0)) (st2 := []) (jA_117_31 (d := 0)) (by rfl) (by rfl) (by decide +kernel) (by rfl) (by rfl) (by omega) (by omega) (by omega) (by omega) rfl ?_
  refine jT_advK 13 (pcN := 82) (LN := [(5, (0, 1)), (4, (4, 24)), (3, (4, 19)), (0, (4, 0)), (1, (0, 2)), (2, (0, 0))]) (stN := [(0, 1), (4, 24), (0, 2), (4, 11), (4, 0)]) (hsN := jpA_1863) (c1 := 0) (s1 := 0) (c2 := 4) (s2 := 13) (by decide +kernel) ?_ (by omega) (by omega)
  refine jT_fA [24, 26, 25] 27 (y := 27) (pcN := 85) (dC := 1) (bc1 := 2) (bc2 := 4) (c1 := 2) (c2 := 9) (as := [(4, 24), (0, 1)]) (asC := [(4, 0), (0, 1)]) (LN := [(5, (0, 1)), (4, (4, 24)), (3, (4, 19)), (0, (4, 0)), (1, (0, 2)), (2, (0, 0))]) (stN := [(0, 2), (4, 11), (4, 0)]) (hsC := [(114, [], [1]), (4, [(4, 2), (1, 1)], []), jgh]) (ex := [(114, [], [1]), (7, [(4, 3), (4, (-1)), (4, (-1))], [])]) (v := (4, 4)) (st2 := [(4, 28), (0, 2), (4, 11), (4, 0)]) (hs2 := jpA_1864) (jA_27_445 (d := 0)) (by rfl) (by rfl) (by decide +kernel) (by rfl) (by rfl) (by omega) (by omega) (by omega) (by omega) rfl (by decide +kernel) ?_
  refine jT_fA [11, 28, 12, 13, 14, 15, 16, 27, 17, 18, 19, 20] 29 (y := 60) (pcN := 88) (dC := 1) (bc1 := 2) (bc2 := 9) (c1 := 0) (c2 := 0) (as := [(4, 11), (0, 2), (4, 28)]) (asC := [(4, 0), (0, 2), (4, 1)]) (LN := [(5, (0, 1)), (4, (4, 24)), (3, (4, 19)), (0, (4, 0)), (1, (0, 2)), (2, (0, 0))]) (stN := [(4, 0)]) (hsC := jpA_1461) (ex := [(117, [], [8, 9, 1, 11]), jzA_1459]) (v := (4, 13)) (st2 := [(4, 30), (4, 0)]) (hs2 := jpA_1865) (jA_60_374 (d := 0)) (by rfl) (by rfl) (by decide +kernel) (by rfl) (by rfl) (by omega) (by omega) (by omega) (by omega) rfl (by decide +kernel) ?_
  refine jT_fB [0, 30, 1, 2, 3, 4, 5, 6, 7, 8, 9, 10, 11, 12, 13, 14, 15, 16] 31 (y := 100) (pcN := 91) (dC := 0) (bc1 := 0) (bc2 := 0) (c1 := 0) (c2 := 0) (as := [(4, 0), (4, 30)]) (asC := [(4, 0), (4, 1)]) (LN := [(5, (0, 1)), (4, (4, 24)), (3, (4, 19)), (0, (4, 0)), (1, (0, 2)), (2, (0, 0))]) (stN := []) (hsC := jpA_80) (hsD := jpA_78) (v := (9, 0)) (st2 := []) (hs2 := jpA_1866) (jA_100_34 (d := 0)) (by rfl) (by rfl) (by decide +kernel) (by rfl) (by rfl) (by omega) (by omega) (by omega) (by omega) rfl (by decide +kernel) ?_
  refine jT_advK 2 (pcN := 94) (LN := [(5, (0, 1)), (4, (4, 24)), (3, (4, 19)), (0, (4, 0)), (1, (0, 2)), (2, (0, 0))]) (stN := [(0, 1)]) (hsN := jpA_1866) (c1 := 0) (s1 := 0) (c2 := 0) (s2 := 0) (by decide +kernel) ?_ (by omega) (by omega)
  exact jT_ret rfl (by decide) (by show 24 ≤ 31; decide) (by omega) (by omega) ⟨rfl, rfl, rfl⟩
def jpA_1867 : List JC := [jzA_14, (101, [], [0]), jgh, jgh, jgh, jgh, jgh, jgh, jgh, jgh, jgh, jzA_79, jzA_77, jgh, (117, [], [18, 19, 20, 21]), jgh, jgh, jgh, jgh, jgh, (7, [(4, 22), (4, (-1)), (4, (-1))], []), jgh, (114, [], [23]), (4, [(4, 24), (1, 1)], []), (101, [], [0, 0, 0, 0, 0, 0])]
def jpA_1868 : List JC := [jzA_1836, (101, [], [0]), jgh, jgh, jgh, jgh, jgh, jgh, jgh, jgh, jgh, jzA_76, jzA_77, jgh, (117, [], [18, 19, 20, 21]), jgh, jgh, jgh, jgh, jgh, (7, [(4, 22), (4, (-1)), (4, (-1))], []), jgh, (114, [], [23]), (4, [(4, 24), (1, 1)], []), (101, [], [0, 0, 0, 0, 0, 0]), (114, [], [27]), (101, [], [0, 0, 0, 0, 0, 0]), (4, [(4, 26), (1, 1)], []), (114, [], [27]), (7, [(4, 28), (4, (-1)), (4, (-1))], []), (117, [], [18, 19, 29, 21]), jzA_1837]
def jpA_1869 : List JC := [jzA_1836, (101, [], [1]), jgh, jgh, jgh, jgh, jgh, jgh, jgh, jgh, jgh, jzA_76, jzA_77, jgh, (117, [], [18, 19, 20, 21]), jgh, jgh, jgh, jgh, jgh, (7, [(4, 22), (4, (-1)), (4, (-1))], []), jgh, (114, [], [23]), (4, [(4, 24), (1, 1)], []), (101, [], [0, 0, 0, 0, 0, 0]), (114, [], [27]), (101, [], [0, 0, 0, 0, 0, 0]), (4, [(4, 26), (1, 1)], []), (114, [], [27]), (7, [(4, 28), (4, (-1)), (4, (-1))], []), (117, [], [18, 19, 29, 21]), jzA_1837]
theorem jA_337_477 {xs : List Int} {d : Nat} : jT xs (d + 5) 337 25 0 [(0, (4, 0)), (1, (0, 2)), (2, (0, 0)), (3, (4, 1))] [] jpA_1867 7 22 (fun k v hsN => k = 0 ∧ v = (0, 0) ∧ hsN = jpA_1869) := by
  refine jT_advK 5 (pcN := 5) (LN := [(0, (4, 0)), (1, (0, 2)), (2, (0, 0)), (3, (4, 1))]) (stN := [(0, 0), (0, 2), (4, 0), (0, 0), (4, 1)]) (hsN := jpA_1867) (c1 := 0) (s1 := 0) (c2 := 7) (s2 := 22) (by decide +kernel) ?_ (by omega) (by omega)
  refine jT_fB [0, 2, 3, 4, 5, 6, 7, 8, 9, 10, 11, 12, 13, 14, 15, 16, 17, 18, 19, 20, 21, 22, 23, 24] 25 (y := 129) (pcN := 8) (dC := 4) (bc1 := 7) (bc2 := 22) (c1 := 0) (c2 := 0) (as := [(4, 0), (0, 2), (0, 0)]) (asC := [(4, 0), (0, 2), (0, 0)]) (LN := [(0, (4, 0)), (1, (0, 2)), (2, (0, 0)), (3, (4, 1))]) (stN := [(0, 0), (4, 1)]) (hsC := jpA_1860) (hsD := jpA_1866) (v := (0, 1)) (st2 := [(0, 1), (0, 0), (4, 1)]) (hs2 := jpA_1868) (jA_129_476 (d := 0)) (by rfl) (by rfl) (by decide +kernel) (by rfl) (by rfl) (by omega) (by omega) (by omega) (by omega) rfl (by decide +kernel) ?_
  refine jT_advK 4 (pcN := 22) (LN := [(0, (4, 0)), (1, (0, 2)), (2, (0, 0)), (3, (4, 1))]) (stN := [(0, 0)]) (hsN := jpA_1869) (c1 := 0) (s1 := 0) (c2 := 0) (s2 := 0) (by decide +kernel) ?_ (by omega) (by omega)
  exact jT_ret rfl (by decide) (by show 25 ≤ 32; decide) (by omega) (by omega) ⟨rfl, rfl, rfl⟩
theorem jA_247_478 {xs : List Int} {d : Nat} : jT xs (d + 1) 247 16 0 [(0, (4, 0)), (1, (0, 2)), (2, (0, 0))] [] jpA_1519 0 0 (fun k v hsN => k = 0 ∧ v = (0, 1) ∧ hsN = jpA_1519 ++ []) := by
  refine jT_advK 5 (pcN := 5) (LN := [(0, (4, 0)), (1, (0, 2)), (2, (0, 0))]) (stN := [(0, 2), (4, 0), (1, 0), (1, 0)]) (hsN := jpA_1519) (c1 := 0) (s1 := 0) (c2 := 0) (s2 := 0) (by decide +kernel) ?_ (by omega) (by omega)
  refine jT_fR [0, 1, 2, 3, 4, 5, 6, 7, 8, 9, 10, 11, 12, 13, 14, 15] 16 (y := 245) (pcN := 8) (dC := 0) (bc1 := 0) (bc2 := 0) (c1 := 0) (c2 := 0) (as := [(4, 0), (0, 2)]) (asC := [(4, 0), (0, 2)]) (LN := [(0, (4, 0)), (1, (0, 2)), (2, (0, 0))]) (stN := [(1, 0), (1, 0)]) (hsC := jpA_1519) (v := (0, 1)) (st2 := [(0, 1), (1, 0), (1, 0)]) (jA_245_379 (d := 0)) (by rfl) (by rfl) (by decide +kernel) (by rfl) (by rfl) (by omega) (by omega) (by omega) (by omega) rfl ?_
  refine jT_advK 3 (pcN := 11) (LN := [(0, (4, 0)), (1, (0, 2)), (2, (0, 0))]) (stN := [(1, 0), (1, 0), (1, 0)]) (hsN := jpA_1519) (c1 := 0) (s1 := 0) (c2 := 0) (s2 := 0) (by decide +kernel) ?_ (by omega) (by omega)
  refine jT_fR [] 16 (y := 189) (pcN := 14) (dC := 0) (bc1 := 0) (bc2 := 0) (c1 := 0) (c2 := 0) (as := [(1, 0), (1, 0), (1, 0)]) (asC := [(1, 0), (1, 0), (1, 0)]) (LN := [(0, (4, 0)), (1, (0, 2)), (2, (0, 0))]) (stN := []) (hsC := []) (v := (0, 1)) (st2 := [(0, 1)]) (jA_189_448 (d := 0)) (by rfl) (by rfl) (by decide +kernel) (by rfl) (by rfl) (by omega) (by omega) (by omega) (by omega) rfl ?_
  exact jT_ret rfl (by decide) (by show 16 ≤ 16; decide) (by omega) (by omega) ⟨rfl, rfl, rfl⟩
theorem jA_204_479 {xs : List Int} {d : Nat} : jT xs (d + 2) 204 16 0 [(0, (4, 0)), (1, (4, 1)), (2, (0, 619)), (3, (1, (-1)))] [] jpA_130 0 0 (fun k v hsN => k = 0 ∧ v = (9, 0) ∧ hsN = jpA_130 ++ []) := by
  refine jT_advK 4 (pcN := 5) (LN := [(0, (4, 0)), (1, (4, 1)), (2, (0, 619)), (3, (1, (-1)))]) (stN := [(0, 625), (4, 1)]) (hsN := jpA_130) (c1 := 0) (s1 := 0) (c2 := 0) (s2 := 0) (by decide +kernel) ?_ (by omega) (by omega)
  refine jT_iald (x := 1) (a := 1) (j := 625) (fs := []) (X := jS0) (by rfl) (by rfl) (by rfl) (by rfl) (by decide +kernel) ?_
  refine jT_eq (LN := [(0, (4, 0)), (1, (4, 1)), (2, (0, 619)), (3, (1, (-1)))]) (stN := [(0, 1)]) (hsN := jpA_130) rfl rfl rfl ?_
  refine jT_advK 7 (pcN := 19) (LN := [(5, (1, 1)), (0, (4, 0)), (1, (4, 1)), (2, (0, 619)), (3, (1, (-1)))]) (stN := [(1, 1), (1, 1), (1, 1)]) (hsN := jpA_130) (c1 := 0) (s1 := 0) (c2 := 0) (s2 := 0) (by decide +kernel) ?_ (by omega) (by omega)
  refine jT_fR [] 16 (y := 194) (pcN := 22) (dC := 1) (bc1 := 0) (bc2 := 0) (c1 := 0) (c2 := 0) (as := [(1, 1), (1, 1)]) (asC := [(1, 1), (1, 1)]) (LN := [(5, (1, 1)), (0, (4, 0)), (1, (4, 1)), (2, (0, 619)), (3, (1, (-1)))]) (stN := [(1, 1)]) (hsC := []) (v := (1, 1)) (st2 := [(1, 1), (1, 1)]) (jA_194_43 (d := 0)) (by rfl) (by rfl) (by decide +kernel) (by rfl) (by rfl) (by omega) (by omega) (by omega) (by omega) rfl ?_
  refine jT_advK 26 (pcN := 65) (LN := [(9, (0, 0)), (7, (1, 1)), (5, (1, 1)), (0, (4, 0)), (1, (4, 1)), (2, (0, 619)), (3, (1, (-1)))]) (stN := [(0, 619), (4, 1), (1, (-1)), (1, 0), (0, 0), (4, 7)]) (hsN := jpA_130) (c1 := 0) (s1 := 0) (c2 := 0) (s2 := 0) (by decide +kernel) ?_ (by omega) (by omega)
  refine jT_iald (x := 0) (a := 1) (j := 619) (fs := []) (X := jS0) (by rfl) (by rfl) (by rfl) (by rfl) (by decide +kernel) ?_
  refine jT_eq (LN := [(9, (0, 0)), (7, (1, 1)), (5, (1, 1)), (0, (4, 0)), (1, (4, 1)), (2, (0, 619)), (3, (1, (-1)))]) (stN := [(0, 0), (1, (-1)), (1, 0), (0, 0), (4, 7)]) (hsN := jpA_130) rfl rfl rfl ?_
  refine jT_advK 30 (pcN := 65) (LN := [(9, (0, 1)), (7, (1, 1)), (5, (1, 1)), (0, (4, 0)), (1, (4, 1)), (2, (0, 619)), (3, (1, (-1)))]) (stN := [(0, 620), (4, 1), (1, (-1)), (1, 0), (0, 1), (4, 7)]) (hsN := jpA_130) (c1 := 0) (s1 := 0) (c2 := 0) (s2 := 0) (by decide +kernel) ?_ (by omega) (by omega)
  refine jT_iald (x := 0) (a := 1) (j := 620) (fs := []) (X := jS0) (by rfl) (by rfl) (by rfl) (by rfl) (by decide +kernel) ?_
  refine jT_eq (LN := [(9, (0, 1)), (7, (1, 1)), (5, (1, 1)), (0, (4, 0)), (1, (4, 1)), (2, (0, 619)), (3, (1, (-1)))]) (stN := [(0, 0), (1, (-1)), (1, 0), (0, 1), (4, 7)]) (hsN := jpA_130) rfl rfl rfl ?_
  refine jT_advK 30 (pcN := 65) (LN := [(9, (0, 2)), (7, (1, 1)), (5, (1, 1)), (0, (4, 0)), (1, (4, 1)), (2, (0, 619)), (3, (1, (-1)))]) (stN := [(0, 621), (4, 1), (1, (-1)), (1, 0), (0, 2), (4, 7)]) (hsN := jpA_130) (c1 := 0) (s1 := 0) (c2 := 0) (s2 := 0) (by decide +kernel) ?_ (by omega) (by omega)
  refine jT_iald (x := 0) (a := 1) (j := 621) (fs := []) (X := jS0) (by rfl) (by rfl) (by rfl) (by rfl) (by decide +kernel) ?_
  refine jT_eq (LN := [(9, (0, 2)), (7, (1, 1)), (5, (1, 1)), (0, (4, 0)), (1, (4, 1)), (2, (0, 619)), (3, (1, (-1)))]) (stN := [(0, 0), (1, (-1)), (1, 0), (0, 2), (4, 7)]) (hsN := jpA_130) rfl rfl rfl ?_
  refine jT_advK 30 (pcN := 65) (LN := [(9, (0, 3)), (7, (1, 1)), (5, (1, 1)), (0, (4, 0)), (1, (4, 1)), (2, (0, 619)), (3, (1, (-1)))]) (stN := [(0, 622), (4, 1), (1, (-1)), (1, 0), (0, 3), (4, 7)]) (hsN := jpA_130) (c1 := 0) (s1 := 0) (c2 := 0) (s2 := 0) (by decide +kernel) ?_ (by omega) (by omega)
  refine jT_iald (x := 0) (a := 1) (j := 622) (fs := []) (X := jS0) (by rfl) (by rfl) (by rfl) (by rfl) (by decide +kernel) ?_
  refine jT_eq (LN := [(9, (0, 3)), (7, (1, 1)), (5, (1, 1)), (0, (4, 0)), (1, (4, 1)), (2, (0, 619)), (3, (1, (-1)))]) (stN := [(0, 0), (1, (-1)), (1, 0), (0, 3), (4, 7)]) (hsN := jpA_130) rfl rfl rfl ?_
  refine jT_advK 30 (pcN := 65) (LN := [(9, (0, 4)), (7, (1, 1)), (5, (1, 1)), (0, (4, 0)), (1, (4, 1)), (2, (0, 619)), (3, (1, (-1)))]) (stN := [(0, 623), (4, 1), (1, (-1)), (1, 0), (0, 4), (4, 7)]) (hsN := jpA_130) (c1 := 0) (s1 := 0) (c2 := 0) (s2 := 0) (by decide +kernel) ?_ (by omega) (by omega)
  refine jT_iald (x := 0) (a := 1) (j := 623) (fs := []) (X := jS0) (by rfl) (by rfl) (by rfl) (by rfl) (by decide +kernel) ?_
  refine jT_eq (LN := [(9, (0, 4)), (7, (1, 1)), (5, (1, 1)), (0, (4, 0)), (1, (4, 1)), (2, (0, 619)), (3, (1, (-1)))]) (stN := [(0, 0), (1, (-1)), (1, 0), (0, 4), (4, 7)]) (hsN := jpA_130) rfl rfl rfl ?_
  refine jT_advK 30 (pcN := 65) (LN := [(9, (0, 5)), (7, (1, 1)), (5, (1, 1)), (0, (4, 0)), (1, (4, 1)), (2, (0, 619)), (3, (1, (-1)))]) (stN := [(0, 624), (4, 1), (1, (-1)), (1, 0), (0, 5), (4, 7)]) (hsN := jpA_130) (c1 := 0) (s1 := 0) (c2 := 0) (s2 := 0) (by decide +kernel) ?_ (by omega) (by omega)
  refine jT_iald (x := 0) (a := 1) (j := 624) (fs := []) (X := jS0) (by rfl) (by rfl) (by rfl) (by rfl) (by decide +kernel) ?_
  refine jT_eq (LN := [(9, (0, 5)), (7, (1, 1)), (5, (1, 1)), (0, (4, 0)), (1, (4, 1)), (2, (0, 619)), (3, (1, (-1)))]) (stN := [(0, 0), (1, (-1)), (1, 0), (0, 5), (4, 7)]) (hsN := jpA_130) rfl rfl rfl ?_
  refine jT_advK 17 (pcN := 89) (LN := [(9, (0, 6)), (7, (1, 1)), (5, (1, 1)), (0, (4, 0)), (1, (4, 1)), (2, (0, 619)), (3, (1, (-1)))]) (stN := [(4, 0)]) (hsN := jpA_130) (c1 := 0) (s1 := 0) (c2 := 0) (s2 := 0) (by decide +kernel) ?_ (by omega) (by omega)
  refine jT_fR [0, 1, 2, 3, 4, 5, 6, 7, 8, 9, 10, 11, 12, 13, 14, 15] 16 (y := 199) (pcN := 92) (dC := 1) (bc1 := 0) (bc2 := 0) (c1 := 0) (c2 := 0) (as := [(4, 0)]) (asC := [(4, 0)]) (LN := [(9, (0, 6)), (7, (1, 1)), (5, (1, 1)), (0, (4, 0)), (1, (4, 1)), (2, (0, 619)), (3, (1, (-1)))]) (stN := []) (hsC := jpA_147) (v := (9, 0)) (st2 := []) (jA_199_45 (d := 0)) (by rfl) (by rfl) (by decide +kernel) (by rfl) (by rfl) (by omega) (by omega) (by omega) (by omega) rfl ?_
  exact jT_ret rfl (by decide) (by show 16 ≤ 16; decide) (by omega) (by omega) ⟨rfl, rfl, rfl⟩
theorem jA_248_480 {xs : List Int} {d : Nat} : jT xs (d + 3) 248 16 0 [(0, (4, 0)), (1, (0, 2)), (2, (0, 0))] [] jpA_1840 0 0 (fun k v hsN => k = 0 ∧ v = (0, 1) ∧ hsN = jpA_1841) := by
  refine jT_advK 10 (pcN := 14) (LN := [(4, (0, 0)), (3, (0, 1)), (0, (4, 0)), (1, (0, 2)), (2, (0, 0))]) (stN := [(0, 2), (4, 0), (0, 0)]) (hsN := jpA_1840) (c1 := 0) (s1 := 0) (c2 := 0) (s2 := 0) (by decide +kernel) ?_ (by omega) (by omega)
  refine jT_fR [0, 1, 2, 3, 4, 5, 6, 7, 8, 9, 10, 11, 12, 13, 14, 15] 16 (y := 245) (pcN := 17) (dC := 0) (bc1 := 0) (bc2 := 0) (c1 := 0) (c2 := 0) (as := [(4, 0), (0, 2)]) (asC := [(4, 0), (0, 2)]) (LN := [(4, (0, 0)), (3, (0, 1)), (0, (4, 0)), (1, (0, 2)), (2, (0, 0))]) (stN := [(0, 0)]) (hsC := jpA_1519) (v := (0, 1)) (st2 := [(0, 1), (0, 0)]) (jA_245_379 (d := 0)) (by rfl) (by rfl) (by decide +kernel) (by rfl) (by rfl) (by omega) (by omega) (by omega) (by omega) rfl ?_
  refine jT_advK 6 (pcN := 28) (LN := [(4, (0, 0)), (3, (0, 1)), (0, (4, 0)), (1, (0, 2)), (2, (0, 0))]) (stN := [(0, 0), (0, 2), (4, 1), (4, 0)]) (hsN := jpA_1840) (c1 := 0) (s1 := 0) (c2 := 0) (s2 := 0) (by decide +kernel) ?_ (by omega) (by omega)
  refine jT_fR [] 16 (y := 242) (pcN := 31) (dC := 0) (bc1 := 0) (bc2 := 0) (c1 := 0) (c2 := 0) (as := [(0, 2), (0, 0)]) (asC := [(0, 2), (0, 0)]) (LN := [(4, (0, 0)), (3, (0, 1)), (0, (4, 0)), (1, (0, 2)), (2, (0, 0))]) (stN := [(4, 1), (4, 0)]) (hsC := []) (v := (0, 619)) (st2 := [(0, 619), (4, 1), (4, 0)]) (jA_242_380 (d := 0)) (by rfl) (by rfl) (by decide +kernel) (by rfl) (by rfl) (by omega) (by omega) (by omega) (by omega) rfl ?_
  refine jT_fR [0, 1, 2, 3, 4, 5, 6, 7, 8, 9, 10, 11, 12, 13, 14, 15] 16 (y := 203) (pcN := 34) (dC := 0) (bc1 := 0) (bc2 := 0) (c1 := 0) (c2 := 0) (as := [(4, 0), (4, 1), (0, 619)]) (asC := [(4, 0), (4, 1), (0, 619)]) (LN := [(4, (0, 0)), (3, (0, 1)), (0, (4, 0)), (1, (0, 2)), (2, (0, 0))]) (stN := []) (hsC := jpA_130) (v := (9, 0)) (st2 := []) (jA_203_383 (d := 0)) (by rfl) (by rfl) (by decide +kernel) (by rfl) (by rfl) (by omega) (by omega) (by omega) (by omega) rfl ?_
  refine jT_advK 5 (pcN := 41) (LN := [(4, (0, 0)), (3, (0, 1)), (0, (4, 0)), (1, (0, 2)), (2, (0, 0))]) (stN := [(0, 0), (0, 2), (4, 1), (4, 0)]) (hsN := jpA_1840) (c1 := 0) (s1 := 0) (c2 := 0) (s2 := 0) (by decide +kernel) ?_ (by omega) (by omega)
  refine jT_fR [] 16 (y := 242) (pcN := 44) (dC := 0) (bc1 := 0) (bc2 := 0) (c1 := 0) (c2 := 0) (as := [(0, 2), (0, 0)]) (asC := [(0, 2), (0, 0)]) (LN := [(4, (0, 0)), (3, (0, 1)), (0, (4, 0)), (1, (0, 2)), (2, (0, 0))]) (stN := [(4, 1), (4, 0)]) (hsC := []) (v := (0, 619)) (st2 := [(0, 619), (4, 1), (4, 0)]) (jA_242_380 (d := 0)) (by rfl) (by rfl) (by decide +kernel) (by rfl) (by rfl) (by omega) (by omega) (by omega) (by omega) rfl ?_
  refine jT_advK 1 (pcN := 47) (LN := [(4, (0, 0)), (3, (0, 1)), (0, (4, 0)), (1, (0, 2)), (2, (0, 0))]) (stN := [(1, (-1)), (0, 619), (4, 1), (4, 0)]) (hsN := jpA_1840) (c1 := 0) (s1 := 0) (c2 := 0) (s2 := 0) (by decide +kernel) ?_ (by omega) (by omega)
  refine jT_fR [0, 1, 2, 3, 4, 5, 6, 7, 8, 9, 10, 11, 12, 13, 14, 15] 16 (y := 204) (pcN := 50) (dC := 2) (bc1 := 0) (bc2 := 0) (c1 := 0) (c2 := 0) (as := [(4, 0), (4, 1), (0, 619), (1, (-1))]) (asC := [(4, 0), (4, 1), (0, 619), (1, (-1))]) (LN := [(4, (0, 0)), (3, (0, 1)), (0, (4, 0)), (1, (0, 2)), (2, (0, 0))]) (stN := []) (hsC := jpA_130) (v := (9, 0)) (st2 := []) (jA_204_479 (d := 0)) (by rfl) (by rfl) (by decide +kernel) (by rfl) (by rfl) (by omega) (by omega) (by omega) (by omega) rfl ?_
  refine jT_advK 6 (pcN := 74) (LN := [(4, (0, 0)), (3, (0, 1)), (0, (4, 0)), (1, (0, 2)), (2, (0, 0))]) (stN := [(4, 0)]) (hsN := jpA_1840) (c1 := 0) (s1 := 0) (c2 := 0) (s2 := 0) (by decide +kernel) ?_ (by omega) (by omega)
  refine jT_fR [0, 1, 2, 3, 4, 5, 6, 7, 8, 9, 10, 11, 12, 13, 14, 15] 16 (y := 205) (pcN := 77) (dC := 1) (bc1 := 0) (bc2 := 0) (c1 := 0) (c2 := 0) (as := [(4, 0)]) (asC := [(4, 0)]) (LN := [(4, (0, 0)), (3, (0, 1)), (0, (4, 0)), (1, (0, 2)), (2, (0, 0))]) (stN := []) (hsC := jpA_147) (v := (0, 1)) (st2 := [(0, 1)]) (jA_205_48 (d := 0)) (by rfl) (by rfl) (by decide +kernel) (by rfl) (by rfl) (by omega) (by omega) (by omega) (by omega) rfl ?_
  refine jT_advK 7 (pcN := 91) (LN := [(3, (0, 1)), (4, (0, 0)), (0, (4, 0)), (1, (0, 2)), (2, (0, 0))]) (stN := [(4, 0)]) (hsN := jpA_1840) (c1 := 0) (s1 := 0) (c2 := 0) (s2 := 0) (by decide +kernel) ?_ (by omega) (by omega)
  refine jT_fB [0, 1, 2, 3, 4, 5, 6, 7, 8, 9, 10, 11, 12, 13, 14, 15] 16 (y := 239) (pcN := 94) (dC := 1) (bc1 := 0) (bc2 := 0) (c1 := 0) (c2 := 0) (as := [(4, 0)]) (asC := [(4, 0)]) (LN := [(3, (0, 1)), (4, (0, 0)), (0, (4, 0)), (1, (0, 2)), (2, (0, 0))]) (stN := []) (hsC := jpA_1541) (hsD := jpA_1544) (v := (9, 0)) (st2 := []) (hs2 := jpA_1841) (jA_239_346 (d := 0)) (by rfl) (by rfl) (by decide +kernel) (by rfl) (by rfl) (by omega) (by omega) (by omega) (by omega) rfl (by decide +kernel) ?_
  refine jT_advK 5 (pcN := 14) (LN := [(4, (0, 1)), (3, (0, 1)), (0, (4, 0)), (1, (0, 2)), (2, (0, 0))]) (stN := [(0, 2), (4, 0), (0, 1)]) (hsN := jpA_1841) (c1 := 0) (s1 := 0) (c2 := 0) (s2 := 0) (by decide +kernel) ?_ (by omega) (by omega)
  refine jT_fR [0, 1, 2, 3, 4, 5, 6, 7, 8, 9, 10, 11, 12, 13, 14, 15] 16 (y := 245) (pcN := 17) (dC := 0) (bc1 := 0) (bc2 := 0) (c1 := 0) (c2 := 0) (as := [(4, 0), (0, 2)]) (asC := [(4, 0), (0, 2)]) (LN := [(4, (0, 1)), (3, (0, 1)), (0, (4, 0)), (1, (0, 2)), (2, (0, 0))]) (stN := [(0, 1)]) (hsC := jpA_1545) (v := (0, 1)) (st2 := [(0, 1), (0, 1)]) (jA_245_384 (d := 0)) (by rfl) (by rfl) (by decide +kernel) (by rfl) (by rfl) (by omega) (by omega) (by omega) (by omega) rfl ?_
  refine jT_advK 2 (pcN := 101) (LN := [(4, (0, 1)), (3, (0, 1)), (0, (4, 0)), (1, (0, 2)), (2, (0, 0))]) (stN := [(0, 1)]) (hsN := jpA_1841) (c1 := 0) (s1 := 0) (c2 := 0) (s2 := 0) (by decide +kernel) ?_ (by omega) (by omega)
  exact jT_ret rfl (by decide) (by show 16 ≤ 16; decide) (by omega) (by omega) ⟨rfl, rfl, rfl⟩
def jpA_1870 : List JC := [jzA_1556, jzA_1659, (100, [], []), jzA_196, jzA_201, jgh, jgh, (101, [], [0, 0, 0, 0, 0, 0]), jzA_1539, jgh, jgh, jgh, jgh, jgh, jgh, jgh, (100, [], jS0), jgh, jgh, jgh, jgh, jgh, jgh, jgh]
theorem jA_246_481 {xs : List Int} {d : Nat} : jT xs (d + 4) 246 24 0 [(0, (4, 0)), (1, (0, 2)), (2, (0, 0))] [] jpA_1842 0 0 (fun k v hsN => k = 0 ∧ v = (0, 1) ∧ hsN = jpA_1870) := by
  refine jT_advK 2 (pcN := 2) (LN := [(0, (4, 0)), (1, (0, 2)), (2, (0, 0))]) (stN := [(0, 2), (4, 0)]) (hsN := jpA_1842) (c1 := 0) (s1 := 0) (c2 := 0) (s2 := 0) (by decide +kernel) ?_ (by omega) (by omega)
  refine jT_fR [] 24 (y := 238) (pcN := 5) (dC := 1) (bc1 := 0) (bc2 := 0) (c1 := 0) (c2 := 0) (as := [(0, 2)]) (asC := [(0, 2)]) (LN := [(0, (4, 0)), (1, (0, 2)), (2, (0, 0))]) (stN := [(4, 0)]) (hsC := []) (v := (0, 1)) (st2 := [(0, 1), (4, 0)]) (jA_238_378 (d := 0)) (by rfl) (by rfl) (by decide +kernel) (by rfl) (by rfl) (by omega) (by omega) (by omega) (by omega) rfl ?_
  refine jT_fR [0, 1, 2, 3, 4, 5, 6, 7, 8, 9, 10, 11, 12, 13, 14, 15] 24 (y := 190) (pcN := 8) (dC := 1) (bc1 := 0) (bc2 := 0) (c1 := 0) (c2 := 0) (as := [(4, 0), (0, 1)]) (asC := [(4, 0), (0, 1)]) (LN := [(0, (4, 0)), (1, (0, 2)), (2, (0, 0))]) (stN := []) (hsC := jpA_22) (v := (0, 0)) (st2 := [(0, 0)]) (jA_190_39 (d := 0)) (by rfl) (by rfl) (by decide +kernel) (by rfl) (by rfl) (by omega) (by omega) (by omega) (by omega) rfl ?_
  refine jT_advK 5 (pcN := 15) (LN := [(0, (4, 0)), (1, (0, 2)), (2, (0, 0))]) (stN := [(0, 0), (0, 2), (4, 0), (4, 0)]) (hsN := jpA_1842) (c1 := 0) (s1 := 0) (c2 := 0) (s2 := 0) (by decide +kernel) ?_ (by omega) (by omega)
  refine jT_fR [0, 1, 2, 3, 4, 5, 6, 7, 8, 9, 10, 11, 12, 13, 14, 15] 24 (y := 247) (pcN := 18) (dC := 1) (bc1 := 0) (bc2 := 0) (c1 := 0) (c2 := 0) (as := [(4, 0), (0, 2), (0, 0)]) (asC := [(4, 0), (0, 2), (0, 0)]) (LN := [(0, (4, 0)), (1, (0, 2)), (2, (0, 0))]) (stN := [(4, 0)]) (hsC := jpA_1519) (v := (0, 1)) (st2 := [(0, 1), (4, 0)]) (jA_247_478 (d := 0)) (by rfl) (by rfl) (by decide +kernel) (by rfl) (by rfl) (by omega) (by omega) (by omega) (by omega) rfl ?_
  refine jT_advK 1 (pcN := 19) (LN := [(0, (4, 0)), (1, (0, 2)), (2, (0, 0))]) (stN := [(0, 1), (0, 1), (4, 0)]) (hsN := jpA_1842) (c1 := 0) (s1 := 0) (c2 := 0) (s2 := 0) (by decide +kernel) ?_ (by omega) (by omega)
  refine jT_fR [0] 24 (y := 191) (pcN := 22) (dC := 0) (bc1 := 0) (bc2 := 0) (c1 := 0) (c2 := 0) (as := [(4, 0), (0, 1), (0, 1)]) (asC := [(4, 0), (0, 1), (0, 1)]) (LN := [(0, (4, 0)), (1, (0, 2)), (2, (0, 0))]) (stN := []) (hsC := [jgh]) (v := (0, 0)) (st2 := [(0, 0)]) (jA_191_38 (d := 0)) (by rfl) (by rfl) (by decide +kernel) (by rfl) (by rfl) (by omega) (by omega) (by omega) (by omega) rfl ?_
  refine jT_advK 5 (pcN := 29) (LN := [(0, (4, 0)), (1, (0, 2)), (2, (0, 0))]) (stN := [(0, 0), (0, 2), (4, 0), (4, 0)]) (hsN := jpA_1842) (c1 := 0) (s1 := 0) (c2 := 0) (s2 := 0) (by decide +kernel) ?_ (by omega) (by omega)
  refine jT_fB [0, 1, 2, 3, 4, 5, 6, 7, 8, 9, 10, 11, 12, 13, 14, 15] 24 (y := 248) (pcN := 32) (dC := 3) (bc1 := 0) (bc2 := 0) (c1 := 0) (c2 := 0) (as := [(4, 0), (0, 2), (0, 0)]) (asC := [(4, 0), (0, 2), (0, 0)]) (LN := [(0, (4, 0)), (1, (0, 2)), (2, (0, 0))]) (stN := [(4, 0)]) (hsC := jpA_1840) (hsD := jpA_1841) (v := (0, 1)) (st2 := [(0, 1), (4, 0)]) (hs2 := jpA_1843) (jA_248_480 (d := 0)) (by rfl) (by rfl) (by decide +kernel) (by rfl) (by rfl) (by omega) (by omega) (by omega) (by omega) rfl (by decide +kernel) ?_
  refine jT_advK 1 (pcN := 33) (LN := [(0, (4, 0)), (1, (0, 2)), (2, (0, 0))]) (stN := [(0, 2), (0, 1), (4, 0)]) (hsN := jpA_1843) (c1 := 0) (s1 := 0) (c2 := 0) (s2 := 0) (by decide +kernel) ?_ (by omega) (by omega)
  refine jT_fR [0] 24 (y := 191) (pcN := 36) (dC := 0) (bc1 := 0) (bc2 := 0) (c1 := 0) (c2 := 0) (as := [(4, 0), (0, 1), (0, 2)]) (asC := [(4, 0), (0, 1), (0, 2)]) (LN := [(0, (4, 0)), (1, (0, 2)), (2, (0, 0))]) (stN := []) (hsC := [jgh]) (v := (0, 0)) (st2 := [(0, 0)]) (jA_191_49 (d := 0)) (by rfl) (by rfl) (by decide +kernel) (by rfl) (by rfl) (by omega) (by omega) (by omega) (by omega) rfl ?_
  refine jT_advK 3 (pcN := 43) (LN := [(0, (4, 0)), (1, (0, 2)), (2, (0, 0))]) (stN := [(0, 2), (4, 0)]) (hsN := jpA_1843) (c1 := 0) (s1 := 0) (c2 := 0) (s2 := 0) (by decide +kernel) ?_ (by omega) (by omega)
  refine jT_fB [0, 1, 2, 3, 4, 5, 6, 7, 8, 9, 10, 11, 12, 13, 14, 15, 16, 17, 18, 19, 20, 21, 22, 23] 24 (y := 241) (pcN := 46) (dC := 1) (bc1 := 0) (bc2 := 0) (c1 := 0) (c2 := 0) (as := [(4, 0), (0, 2)]) (asC := [(4, 0), (0, 2)]) (LN := [(0, (4, 0)), (1, (0, 2)), (2, (0, 0))]) (stN := []) (hsC := jpA_1558) (hsD := jpA_1660) (v := (0, 1)) (st2 := [(0, 1)]) (hs2 := jpA_1870) (jA_241_385 (d := 0)) (by rfl) (by rfl) (by decide +kernel) (by rfl) (by rfl) (by omega) (by omega) (by omega) (by omega) rfl (by decide +kernel) ?_
  exact jT_ret rfl (by decide) (by show 24 ≤ 24; decide) (by omega) (by omega) ⟨rfl, rfl, rfl⟩
theorem jA_129_482 {xs : List Int} {d : Nat} {x2 : Int} (h_x2 : 1 ≤ x2 ∧ x2 ≤ 2147483647) : jT xs (d + 1) 129 23 0 [(0, (4, 0)), (1, (0, 2)), (2, (0, x2))] [] jpA_1858 1 6 (fun k v hsN => k = 1 ∧ v = (0, 0) ∧ hsN = jpA_1858 ++ []) := by
  refine jT_xaload_n (v := (4, 0)) (pcN := 1) jI_129_0 rfl rfl rfl ?_
  refine jT_xiload_n (v := (0, 2)) (pcN := 2) jI_129_1 rfl rfl rfl ?_
  refine jT_xiconst (k := 4) (pcN := 3) jI_129_2 rfl ?_
  refine jT_fR [0] 23 (y := 115) (pcN := 6) (dC := 0) (bc1 := 0) (bc2 := 0) (c1 := 1) (c2 := 6) (as := [(4, 0), (0, 2), (0, 4)]) (asC := [(4, 0), (0, 2), (0, 4)]) (LN := [(0, (4, 0)), (1, (0, 2)), (2, (0, x2))]) (stN := []) (hsC := [jgh]) (v := (9, 0)) (st2 := []) (jA_115_372 (d := 0)) (by rfl) (by rfl) (by decide +kernel) (by rfl) (by rfl) (by omega) (by omega) (by omega) (by omega) rfl ?_
  refine jT_xaload_n (v := (4, 0)) (pcN := 7) jI_129_6 rfl rfl rfl ?_
  refine jT_xgetf (a := 0) (t := 1) (ci := 13) (fi := 11) (c := jzA_5) (v := (4, 11)) (pcN := 10) jI_129_7 rfl rfl rfl rfl rfl rfl rfl ?_
  refine jT_xiload_n (v := (0, 2)) (pcN := 11) jI_129_10 rfl rfl rfl ?_
  refine jT_fR [11, 12, 13, 14, 15, 16, 17, 18, 19, 20] 23 (y := 56) (pcN := 14) (dC := 0) (bc1 := 0) (bc2 := 0) (c1 := 1) (c2 := 6) (as := [(4, 11), (0, 2)]) (asC := [(4, 0), (0, 2)]) (LN := [(0, (4, 0)), (1, (0, 2)), (2, (0, x2))]) (stN := []) (hsC := jpA_1446) (v := (4, 8)) (st2 := [(4, 19)]) (jA_56_373 (d := 0)) (by rfl) (by rfl) (by decide +kernel) (by rfl) (by rfl) (by omega) (by omega) (by omega) (by omega) rfl ?_
  refine jT_xastore_n (v := (4, 19)) (LN := [(3, (4, 19)), (0, (4, 0)), (1, (0, 2)), (2, (0, x2))]) (pcN := 15) jI_129_14 rfl rfl rfl rfl ?_
  refine jT_xaload_n (v := (4, 0)) (pcN := 16) jI_129_15 rfl rfl rfl ?_
  refine jT_xiload_n (v := (0, x2)) (pcN := 17) jI_129_16 rfl rfl rfl ?_
  refine jT_xaload_n (v := (4, 19)) (pcN := 18) jI_129_17 rfl rfl rfl ?_
  refine jT_fR [19, 21, 22] 23 (y := 29) (pcN := 21) (dC := 0) (bc1 := 0) (bc2 := 0) (c1 := 1) (c2 := 6) (as := [(4, 19)]) (asC := [(4, 0)]) (LN := [(3, (4, 19)), (0, (4, 0)), (1, (0, 2)), (2, (0, x2))]) (stN := [(0, x2), (4, 0)]) (hsC := [(7, [(4, 1), (4, (-1)), (4, (-1))], []), (114, [], [2]), jgh]) (v := (0, 1)) (st2 := [(0, 1), (0, x2), (4, 0)]) (jA_29_416 (d := 0)) (by rfl) (by rfl) (by decide +kernel) (by rfl) (by rfl) (by omega) (by omega) (by omega) (by omega) rfl ?_
  exact jT_fX [0] 23 (y := 115) (pcN := 24) (dC := 0) (bc1 := 1) (bc2 := 6) (as := [(4, 0), (0, x2), (0, 1)]) (asC := [(4, 0), (0, x2), (0, 1)]) (LN := [(3, (4, 19)), (0, (4, 0)), (1, (0, 2)), (2, (0, x2))]) (stN := []) (hsC := [jgh]) (e := 0) (jA_115_453 (d := 0) (by omega)) (by rfl) (by rfl) (by decide +kernel) (by rfl) (by rfl) (by omega) (by omega) (by omega) (by omega) ⟨rfl, ⟨rfl, rfl, rfl⟩⟩
theorem jA_337_483 {xs : List Int} {d : Nat} {x2 : Int} (h_x2 : 1 ≤ x2 ∧ x2 ≤ 2147483647) : jT xs (d + 2) 337 24 0 [(0, (4, 0)), (1, (0, 2)), (2, (0, x2)), (3, (4, 1))] [] jpA_1859 1 6 (fun k v hsN => k = 0 ∧ v = (0, 1) ∧ hsN = jpA_1859 ++ []) := by
  refine jT_xaload_n (v := (4, 1)) (pcN := 1) jI_337_0 rfl rfl rfl ?_
  refine jT_xiconst (k := 0) (pcN := 2) jI_337_1 rfl ?_
  refine jT_xaload_n (v := (4, 0)) (pcN := 3) jI_337_2 rfl rfl rfl ?_
  refine jT_xiload_n (v := (0, 2)) (pcN := 4) jI_337_3 rfl rfl rfl ?_
  refine jT_xiload_n (v := (0, x2)) (pcN := 5) jI_337_4 rfl rfl rfl ?_
  exact jT_fX [0, 2, 3, 4, 5, 6, 7, 8, 9, 10, 11, 12, 13, 14, 15, 16, 17, 18, 19, 20, 21, 22, 23] 24 (y := 129) (pcN := 8) (dC := 1) (bc1 := 1) (bc2 := 6) (as := [(4, 0), (0, 2), (0, x2)]) (asC := [(4, 0), (0, 2), (0, x2)]) (LN := [(0, (4, 0)), (1, (0, 2)), (2, (0, x2)), (3, (4, 1))]) (stN := [(0, 0), (4, 1)]) (hsC := jpA_1858) (e := 0) (jA_129_482 (d := 0) (by omega)) (by rfl) (by rfl) (by decide +kernel) (by rfl) (by rfl) (by omega) (by omega) (by omega) (by omega) (show _ from ⟨rfl, rfl, rfl⟩)
theorem jA_247_484 {xs : List Int} {d : Nat} {x2 : Int} (h_x2 : 1 ≤ x2 ∧ x2 ≤ 2147483647) : jT xs (d + 1) 247 16 0 [(0, (4, 0)), (1, (0, 2)), (2, (0, x2))] [] jpA_1519 0 0 (fun k v hsN => k = 0 ∧ v = (0, 0) ∧ hsN = jpA_1519 ++ []) := by
  refine jT_xiload_n (v := (0, x2)) (pcN := 1) jI_247_0 rfl rfl rfl ?_
  refine jT_xi2l (x := x2) (z := x2) (pcN := 2) jI_247_1 rfl (jw_idd (by omega) (by omega)) rfl ?_
  refine jT_xlconst (z := 0) (pcN := 3) jI_247_2 rfl rfl ?_
  refine jT_xaload_n (v := (4, 0)) (pcN := 4) jI_247_3 rfl rfl rfl ?_
  refine jT_xiload_n (v := (0, 2)) (pcN := 5) jI_247_4 rfl rfl rfl ?_
  refine jT_fR [0, 1, 2, 3, 4, 5, 6, 7, 8, 9, 10, 11, 12, 13, 14, 15] 16 (y := 245) (pcN := 8) (dC := 0) (bc1 := 0) (bc2 := 0) (c1 := 0) (c2 := 0) (as := [(4, 0), (0, 2)]) (asC := [(4, 0), (0, 2)]) (LN := [(0, (4, 0)), (1, (0, 2)), (2, (0, x2))]) (stN := [(1, 0), (1, x2)]) (hsC := jpA_1519) (v := (0, 1)) (st2 := [(0, 1), (1, 0), (1, x2)]) (jA_245_379 (d := 0)) (by rfl) (by rfl) (by decide +kernel) (by rfl) (by rfl) (by omega) (by omega) (by omega) (by omega) rfl ?_
  refine jT_xiconst (k := 1) (pcN := 9) jI_247_8 rfl ?_
  refine jT_xisub (x := 1) (y := 1) (z := 0) (pcN := 10) jI_247_9 rfl (by decide) rfl ?_
  refine jT_xi2l (x := 0) (z := 0) (pcN := 11) jI_247_10 rfl (by decide +kernel) rfl ?_
  refine jT_fR [] 16 (y := 189) (pcN := 14) (dC := 0) (bc1 := 0) (bc2 := 0) (c1 := 0) (c2 := 0) (as := [(1, x2), (1, 0), (1, 0)]) (asC := [(1, x2), (1, 0), (1, 0)]) (LN := [(0, (4, 0)), (1, (0, 2)), (2, (0, x2))]) (stN := []) (hsC := []) (v := (0, 0)) (st2 := [(0, 0)]) (jT_in_hi (d := 0) (v := x2) (lo := 0) (hi := 0) (by omega) (by omega) (by omega) (by omega) (by omega)) (by rfl) (by rfl) (by decide +kernel) (by rfl) (by rfl) (by omega) (by omega) (by omega) (by omega) rfl ?_
  exact jT_ret rfl (by decide) (by show 16 ≤ 16; decide) (by omega) (by omega) ⟨rfl, rfl, rfl⟩
theorem jA_246_485 {xs : List Int} {d : Nat} {x2 : Int} (h_x2 : 1 ≤ x2 ∧ x2 ≤ 2147483647) : jT xs (d + 2) 246 16 0 [(0, (4, 0)), (1, (0, 2)), (2, (0, x2))] [] jpA_1519 0 0 (fun k v hsN => k = 0 ∧ v = (0, 0) ∧ hsN = jpA_1820) := by
  refine jT_xaload_n (v := (4, 0)) (pcN := 1) jI_246_0 rfl rfl rfl ?_
  refine jT_xiload_n (v := (0, 2)) (pcN := 2) jI_246_1 rfl rfl rfl ?_
  refine jT_fR [] 16 (y := 238) (pcN := 5) (dC := 1) (bc1 := 0) (bc2 := 0) (c1 := 0) (c2 := 0) (as := [(0, 2)]) (asC := [(0, 2)]) (LN := [(0, (4, 0)), (1, (0, 2)), (2, (0, x2))]) (stN := [(4, 0)]) (hsC := []) (v := (0, 1)) (st2 := [(0, 1), (4, 0)]) (jA_238_378 (d := 0)) (by rfl) (by rfl) (by decide +kernel) (by rfl) (by rfl) (by omega) (by omega) (by omega) (by omega) rfl ?_
  refine jT_fR [0, 1, 2, 3, 4, 5, 6, 7, 8, 9, 10, 11, 12, 13, 14, 15] 16 (y := 190) (pcN := 8) (dC := 1) (bc1 := 0) (bc2 := 0) (c1 := 0) (c2 := 0) (as := [(4, 0), (0, 1)]) (asC := [(4, 0), (0, 1)]) (LN := [(0, (4, 0)), (1, (0, 2)), (2, (0, x2))]) (stN := []) (hsC := jpA_22) (v := (0, 0)) (st2 := [(0, 0)]) (jA_190_39 (d := 0)) (by rfl) (by rfl) (by decide +kernel) (by rfl) (by rfl) (by omega) (by omega) (by omega) (by omega) rfl ?_
  refine jT_xifF (t := 39) (pcN := 11) jI_246_8 rfl (by decide +kernel) rfl rfl ?_
  refine jT_xaload_n (v := (4, 0)) (pcN := 12) jI_246_11 rfl rfl rfl ?_
  refine jT_xaload_n (v := (4, 0)) (pcN := 13) jI_246_12 rfl rfl rfl ?_
  refine jT_xiload_n (v := (0, 2)) (pcN := 14) jI_246_13 rfl rfl rfl ?_
  refine jT_xiload_n (v := (0, x2)) (pcN := 15) jI_246_14 rfl rfl rfl ?_
  refine jT_fR [0, 1, 2, 3, 4, 5, 6, 7, 8, 9, 10, 11, 12, 13, 14, 15] 16 (y := 247) (pcN := 18) (dC := 1) (bc1 := 0) (bc2 := 0) (c1 := 0) (c2 := 0) (as := [(4, 0), (0, 2), (0, x2)]) (asC := [(4, 0), (0, 2), (0, x2)]) (LN := [(0, (4, 0)), (1, (0, 2)), (2, (0, x2))]) (stN := [(4, 0)]) (hsC := jpA_1519) (v := (0, 0)) (st2 := [(0, 0), (4, 0)]) (jA_247_484 (d := 0) (by omega)) (by rfl) (by rfl) (by decide +kernel) (by rfl) (by rfl) (by omega) (by omega) (by omega) (by omega) rfl ?_
  refine jT_xiconst (k := 1) (pcN := 19) jI_246_18 rfl ?_
  refine jT_fB [0, 1, 2, 3, 4, 5, 6, 7, 8, 9, 10, 11, 12, 13, 14, 15] 16 (y := 191) (pcN := 22) (dC := 0) (bc1 := 0) (bc2 := 0) (c1 := 0) (c2 := 0) (as := [(4, 0), (0, 0), (0, 1)]) (asC := [(4, 0), (0, 0), (0, 1)]) (LN := [(0, (4, 0)), (1, (0, 2)), (2, (0, x2))]) (stN := []) (hsC := jpA_22) (hsD := jpA_20) (v := (0, 1)) (st2 := [(0, 1)]) (hs2 := jpA_1820) (jA_191_5 (d := 0)) (by rfl) (by rfl) (by decide +kernel) (by rfl) (by rfl) (by omega) (by omega) (by omega) (by omega) rfl (by decide +kernel) ?_
  refine jT_xifT (pcN := 39) jI_246_22 rfl (by decide +kernel) rfl ?_
  refine jT_xiconst (k := 0) (pcN := 40) jI_246_39 rfl ?_
  exact jT_ret rfl (by decide) (by show 16 ≤ 16; decide) (by omega) (by omega) ⟨rfl, rfl, rfl⟩
def jpA_1871 : List JC := [jzA_5, jgh, jgh, jgh, jgh, jgh, jgh, jgh, jgh, jgh, jgh, jzA_88, jgh, (117, [], [17, 18, 19, 20]), jgh, jgh, jgh, jgh, jgh, jgh, (7, [(4, 21), (4, (-1)), (4, (-1))], []), (114, [], [22]), jgh]
theorem jA_129_486 {xs : List Int} {d : Nat} {x2 : Int} (h_x2 : (-2147483648) ≤ x2 ∧ x2 ≤ (-1)) : jT xs (d + 1) 129 23 0 [(0, (4, 0)), (1, (0, 3)), (2, (0, x2))] [] jpA_1871 1 6 (fun k v hsN => k = 1 ∧ v = (0, 0) ∧ hsN = jpA_1871 ++ []) := by
  refine jT_xaload_n (v := (4, 0)) (pcN := 1) jI_129_0 rfl rfl rfl ?_
  refine jT_xiload_n (v := (0, 3)) (pcN := 2) jI_129_1 rfl rfl rfl ?_
  refine jT_xiconst (k := 4) (pcN := 3) jI_129_2 rfl ?_
  refine jT_fR [0] 23 (y := 115) (pcN := 6) (dC := 0) (bc1 := 0) (bc2 := 0) (c1 := 1) (c2 := 6) (as := [(4, 0), (0, 3), (0, 4)]) (asC := [(4, 0), (0, 3), (0, 4)]) (LN := [(0, (4, 0)), (1, (0, 3)), (2, (0, x2))]) (stN := []) (hsC := [jgh]) (v := (9, 0)) (st2 := []) (jA_115_387 (d := 0)) (by rfl) (by rfl) (by decide +kernel) (by rfl) (by rfl) (by omega) (by omega) (by omega) (by omega) rfl ?_
  refine jT_xaload_n (v := (4, 0)) (pcN := 7) jI_129_6 rfl rfl rfl ?_
  refine jT_xgetf (a := 0) (t := 1) (ci := 13) (fi := 11) (c := jzA_5) (v := (4, 11)) (pcN := 10) jI_129_7 rfl rfl rfl rfl rfl rfl rfl ?_
  refine jT_xiload_n (v := (0, 3)) (pcN := 11) jI_129_10 rfl rfl rfl ?_
  refine jT_fR [11, 12, 13, 14, 15, 16, 17, 18, 19, 20] 23 (y := 56) (pcN := 14) (dC := 0) (bc1 := 0) (bc2 := 0) (c1 := 1) (c2 := 6) (as := [(4, 11), (0, 3)]) (asC := [(4, 0), (0, 3)]) (LN := [(0, (4, 0)), (1, (0, 3)), (2, (0, x2))]) (stN := []) (hsC := jpA_1446) (v := (4, 9)) (st2 := [(4, 20)]) (jA_56_388 (d := 0)) (by rfl) (by rfl) (by decide +kernel) (by rfl) (by rfl) (by omega) (by omega) (by omega) (by omega) rfl ?_
  refine jT_xastore_n (v := (4, 20)) (LN := [(3, (4, 20)), (0, (4, 0)), (1, (0, 3)), (2, (0, x2))]) (pcN := 15) jI_129_14 rfl rfl rfl rfl ?_
  refine jT_xaload_n (v := (4, 0)) (pcN := 16) jI_129_15 rfl rfl rfl ?_
  refine jT_xiload_n (v := (0, x2)) (pcN := 17) jI_129_16 rfl rfl rfl ?_
  refine jT_xaload_n (v := (4, 20)) (pcN := 18) jI_129_17 rfl rfl rfl ?_
  refine jT_fR [20, 21, 22] 23 (y := 29) (pcN := 21) (dC := 0) (bc1 := 0) (bc2 := 0) (c1 := 1) (c2 := 6) (as := [(4, 20)]) (asC := [(4, 0)]) (LN := [(3, (4, 20)), (0, (4, 0)), (1, (0, 3)), (2, (0, x2))]) (stN := [(0, x2), (4, 0)]) (hsC := [(7, [(4, 1), (4, (-1)), (4, (-1))], []), (114, [], [2]), jgh]) (v := (0, 1)) (st2 := [(0, 1), (0, x2), (4, 0)]) (jA_29_416 (d := 0)) (by rfl) (by rfl) (by decide +kernel) (by rfl) (by rfl) (by omega) (by omega) (by omega) (by omega) rfl ?_
  exact jT_fX [0] 23 (y := 115) (pcN := 24) (dC := 0) (bc1 := 1) (bc2 := 6) (as := [(4, 0), (0, x2), (0, 1)]) (asC := [(4, 0), (0, x2), (0, 1)]) (LN := [(3, (4, 20)), (0, (4, 0)), (1, (0, 3)), (2, (0, x2))]) (stN := []) (hsC := [jgh]) (e := 0) (jA_115_438 (d := 0) (by omega)) (by rfl) (by rfl) (by decide +kernel) (by rfl) (by rfl) (by omega) (by omega) (by omega) (by omega) ⟨rfl, ⟨rfl, rfl, rfl⟩⟩
def jpA_1872 : List JC := [jzA_14, jgh, jgh, jgh, jgh, jgh, jgh, jgh, jgh, jgh, jgh, jgh, jzA_77, jgh, (117, [], [18, 19, 20, 21]), jgh, jgh, jgh, jgh, jgh, jgh, (7, [(4, 22), (4, (-1)), (4, (-1))], []), (114, [], [23]), jgh]
theorem jA_337_487 {xs : List Int} {d : Nat} {x2 : Int} (h_x2 : (-2147483648) ≤ x2 ∧ x2 ≤ (-1)) : jT xs (d + 2) 337 24 0 [(0, (4, 0)), (1, (0, 3)), (2, (0, x2)), (3, (4, 1))] [] jpA_1872 1 6 (fun k v hsN => k = 0 ∧ v = (0, 1) ∧ hsN = jpA_1872 ++ []) := by
  refine jT_xaload_n (v := (4, 1)) (pcN := 1) jI_337_0 rfl rfl rfl ?_
  refine jT_xiconst (k := 0) (pcN := 2) jI_337_1 rfl ?_
  refine jT_xaload_n (v := (4, 0)) (pcN := 3) jI_337_2 rfl rfl rfl ?_
  refine jT_xiload_n (v := (0, 3)) (pcN := 4) jI_337_3 rfl rfl rfl ?_
  refine jT_xiload_n (v := (0, x2)) (pcN := 5) jI_337_4 rfl rfl rfl ?_
  exact jT_fX [0, 2, 3, 4, 5, 6, 7, 8, 9, 10, 11, 12, 13, 14, 15, 16, 17, 18, 19, 20, 21, 22, 23] 24 (y := 129) (pcN := 8) (dC := 1) (bc1 := 1) (bc2 := 6) (as := [(4, 0), (0, 3), (0, x2)]) (asC := [(4, 0), (0, 3), (0, x2)]) (LN := [(0, (4, 0)), (1, (0, 3)), (2, (0, x2)), (3, (4, 1))]) (stN := [(0, 0), (4, 1)]) (hsC := jpA_1871) (e := 0) (jA_129_486 (d := 0) (by omega)) (by rfl) (by rfl) (by decide +kernel) (by rfl) (by rfl) (by omega) (by omega) (by omega) (by omega) (show _ from ⟨rfl, rfl, rfl⟩)
theorem jA_247_488 {xs : List Int} {d : Nat} {x2 : Int} (h_x2 : (-2147483648) ≤ x2 ∧ x2 ≤ (-1)) : jT xs (d + 1) 247 16 0 [(0, (4, 0)), (1, (0, 3)), (2, (0, x2))] [] jpA_1519 0 0 (fun k v hsN => k = 0 ∧ v = (0, 0) ∧ hsN = jpA_1519 ++ []) := by
  refine jT_xiload_n (v := (0, x2)) (pcN := 1) jI_247_0 rfl rfl rfl ?_
  refine jT_xi2l (x := x2) (z := x2) (pcN := 2) jI_247_1 rfl (jw_idd (by omega) (by omega)) rfl ?_
  refine jT_xlconst (z := 0) (pcN := 3) jI_247_2 rfl rfl ?_
  refine jT_xaload_n (v := (4, 0)) (pcN := 4) jI_247_3 rfl rfl rfl ?_
  refine jT_xiload_n (v := (0, 3)) (pcN := 5) jI_247_4 rfl rfl rfl ?_
  refine jT_fR [0, 1, 2, 3, 4, 5, 6, 7, 8, 9, 10, 11, 12, 13, 14, 15] 16 (y := 245) (pcN := 8) (dC := 0) (bc1 := 0) (bc2 := 0) (c1 := 0) (c2 := 0) (as := [(4, 0), (0, 3)]) (asC := [(4, 0), (0, 3)]) (LN := [(0, (4, 0)), (1, (0, 3)), (2, (0, x2))]) (stN := [(1, 0), (1, x2)]) (hsC := jpA_1519) (v := (0, 1)) (st2 := [(0, 1), (1, 0), (1, x2)]) (jA_245_394 (d := 0)) (by rfl) (by rfl) (by decide +kernel) (by rfl) (by rfl) (by omega) (by omega) (by omega) (by omega) rfl ?_
  refine jT_xiconst (k := 1) (pcN := 9) jI_247_8 rfl ?_
  refine jT_xisub (x := 1) (y := 1) (z := 0) (pcN := 10) jI_247_9 rfl (by decide) rfl ?_
  refine jT_xi2l (x := 0) (z := 0) (pcN := 11) jI_247_10 rfl (by decide +kernel) rfl ?_
  refine jT_fR [] 16 (y := 189) (pcN := 14) (dC := 0) (bc1 := 0) (bc2 := 0) (c1 := 0) (c2 := 0) (as := [(1, x2), (1, 0), (1, 0)]) (asC := [(1, x2), (1, 0), (1, 0)]) (LN := [(0, (4, 0)), (1, (0, 3)), (2, (0, x2))]) (stN := []) (hsC := []) (v := (0, 0)) (st2 := [(0, 0)]) (jT_in_lo (d := 0) (v := x2) (lo := 0) (hi := 0) (by omega) (by omega) (by omega) (by omega)) (by rfl) (by rfl) (by decide +kernel) (by rfl) (by rfl) (by omega) (by omega) (by omega) (by omega) rfl ?_
  exact jT_ret rfl (by decide) (by show 16 ≤ 16; decide) (by omega) (by omega) ⟨rfl, rfl, rfl⟩
theorem jA_246_489 {xs : List Int} {d : Nat} {x2 : Int} (h_x2 : (-2147483648) ≤ x2 ∧ x2 ≤ (-1)) : jT xs (d + 2) 246 16 0 [(0, (4, 0)), (1, (0, 3)), (2, (0, x2))] [] jpA_1519 0 0 (fun k v hsN => k = 0 ∧ v = (0, 0) ∧ hsN = jpA_1820) := by
  refine jT_xaload_n (v := (4, 0)) (pcN := 1) jI_246_0 rfl rfl rfl ?_
  refine jT_xiload_n (v := (0, 3)) (pcN := 2) jI_246_1 rfl rfl rfl ?_
  refine jT_fR [] 16 (y := 238) (pcN := 5) (dC := 1) (bc1 := 0) (bc2 := 0) (c1 := 0) (c2 := 0) (as := [(0, 3)]) (asC := [(0, 3)]) (LN := [(0, (4, 0)), (1, (0, 3)), (2, (0, x2))]) (stN := [(4, 0)]) (hsC := []) (v := (0, 1)) (st2 := [(0, 1), (4, 0)]) (jA_238_393 (d := 0)) (by rfl) (by rfl) (by decide +kernel) (by rfl) (by rfl) (by omega) (by omega) (by omega) (by omega) rfl ?_
  refine jT_fR [0, 1, 2, 3, 4, 5, 6, 7, 8, 9, 10, 11, 12, 13, 14, 15] 16 (y := 190) (pcN := 8) (dC := 1) (bc1 := 0) (bc2 := 0) (c1 := 0) (c2 := 0) (as := [(4, 0), (0, 1)]) (asC := [(4, 0), (0, 1)]) (LN := [(0, (4, 0)), (1, (0, 3)), (2, (0, x2))]) (stN := []) (hsC := jpA_22) (v := (0, 0)) (st2 := [(0, 0)]) (jA_190_39 (d := 0)) (by rfl) (by rfl) (by decide +kernel) (by rfl) (by rfl) (by omega) (by omega) (by omega) (by omega) rfl ?_
  refine jT_xifF (t := 39) (pcN := 11) jI_246_8 rfl (by decide +kernel) rfl rfl ?_
  refine jT_xaload_n (v := (4, 0)) (pcN := 12) jI_246_11 rfl rfl rfl ?_
  refine jT_xaload_n (v := (4, 0)) (pcN := 13) jI_246_12 rfl rfl rfl ?_
  refine jT_xiload_n (v := (0, 3)) (pcN := 14) jI_246_13 rfl rfl rfl ?_
  refine jT_xiload_n (v := (0, x2)) (pcN := 15) jI_246_14 rfl rfl rfl ?_
  refine jT_fR [0, 1, 2, 3, 4, 5, 6, 7, 8, 9, 10, 11, 12, 13, 14, 15] 16 (y := 247) (pcN := 18) (dC := 1) (bc1 := 0) (bc2 := 0) (c1 := 0) (c2 := 0) (as := [(4, 0), (0, 3), (0, x2)]) (asC := [(4, 0), (0, 3), (0, x2)]) (LN := [(0, (4, 0)), (1, (0, 3)), (2, (0, x2))]) (stN := [(4, 0)]) (hsC := jpA_1519) (v := (0, 0)) (st2 := [(0, 0), (4, 0)]) (jA_247_488 (d := 0) (by omega)) (by rfl) (by rfl) (by decide +kernel) (by rfl) (by rfl) (by omega) (by omega) (by omega) (by omega) rfl ?_
  refine jT_xiconst (k := 1) (pcN := 19) jI_246_18 rfl ?_
  refine jT_fB [0, 1, 2, 3, 4, 5, 6, 7, 8, 9, 10, 11, 12, 13, 14, 15] 16 (y := 191) (pcN := 22) (dC := 0) (bc1 := 0) (bc2 := 0) (c1 := 0) (c2 := 0) (as := [(4, 0), (0, 0), (0, 1)]) (asC := [(4, 0), (0, 0), (0, 1)]) (LN := [(0, (4, 0)), (1, (0, 3)), (2, (0, x2))]) (stN := []) (hsC := jpA_22) (hsD := jpA_20) (v := (0, 1)) (st2 := [(0, 1)]) (hs2 := jpA_1820) (jA_191_5 (d := 0)) (by rfl) (by rfl) (by decide +kernel) (by rfl) (by rfl) (by omega) (by omega) (by omega) (by omega) rfl (by decide +kernel) ?_
  refine jT_xifT (pcN := 39) jI_246_22 rfl (by decide +kernel) rfl ?_
  refine jT_xiconst (k := 0) (pcN := 40) jI_246_39 rfl ?_
  exact jT_ret rfl (by decide) (by show 16 ≤ 16; decide) (by omega) (by omega) ⟨rfl, rfl, rfl⟩
def jpA_1873 : List JC := [jzA_5, jgh, jgh, jgh, jgh, jgh, jgh, jgh, jgh, jgh, jzA_79, jzA_88, jgh, (117, [], [17, 18, 19, 20]), jgh, jgh, jgh, jgh, jgh, jgh, (7, [(4, 21), (4, (-1)), (4, (-1))], []), (114, [], [22]), (4, [(4, 23), (1, 1)], []), (101, [], [0, 0, 0, 0, 0, 0])]
def jpA_1874 : List JC := [jzA_5, jgh, jgh, jgh, jgh, jgh, jgh, jgh, jgh, jgh, jzA_79, jzA_88, jgh, (117, [], [17, 18, 19, 20]), jgh, jgh, jgh, jgh, jgh, jgh, (7, [(4, 21), (4, (-1)), (4, (-1))], []), (114, [], [22]), (4, [(4, 23), (1, 1)], []), (101, [], [0, 0, 0, 0, 0, 0]), (114, [], [(-1)])]
def jpA_1875 : List JC := [jzA_5, jgh, jgh, jgh, jgh, jgh, jgh, jgh, jgh, jgh, jzA_79, jzA_88, jgh, (117, [], [17, 18, 19, 20]), jgh, jgh, jgh, jgh, jgh, jgh, (7, [(4, 21), (4, (-1)), (4, (-1))], []), (114, [], [22]), (4, [(4, 23), (1, 1)], []), (101, [], [0, 0, 0, 0, 0, 0]), (114, [], [(-1)]), (101, [], [0, 0, 0, 0, 0, 0]), (4, [(4, 25), (1, 1)], [])]
def jpA_1876 : List JC := [jzA_5, jgh, jgh, jgh, jgh, jgh, jgh, jgh, jgh, jgh, jzA_79, jzA_88, jgh, (117, [], [17, 18, 19, 20]), jgh, jgh, jgh, jgh, jgh, jgh, (7, [(4, 21), (4, (-1)), (4, (-1))], []), (114, [], [22]), (4, [(4, 23), (1, 1)], []), (101, [], [0, 0, 0, 0, 0, 0]), (114, [], [26]), (101, [], [0, 0, 0, 0, 0, 0]), (4, [(4, 25), (1, 1)], [])]
def jpA_1877 : List JC := [jzA_5, jgh, jgh, jgh, jgh, jgh, jgh, jgh, jgh, jgh, jzA_79, jzA_88, jgh, (117, [], [17, 18, 19, 20]), jgh, jgh, jgh, jgh, jgh, jgh, (7, [(4, 21), (4, (-1)), (4, (-1))], []), (114, [], [22]), (4, [(4, 23), (1, 1)], []), (101, [], [0, 0, 0, 0, 0, 0]), (114, [], [26]), (101, [], [0, 0, 0, 0, 0, 0]), (4, [(4, 25), (1, 1)], []), (114, [], [26]), (7, [(4, 27), (4, (-1)), (4, (-1))], [])]
def jpA_1878 : List JC := [jzA_5, jgh, jgh, jgh, jgh, jgh, jgh, jgh, jgh, jgh, jzA_79, jzA_88, jgh, (117, [], [17, 18, 19, 20]), jgh, jgh, jgh, jgh, jgh, jgh, (7, [(4, 21), (4, (-1)), (4, (-1))], []), (114, [], [22]), (4, [(4, 23), (1, 1)], []), (101, [], [0, 0, 0, 0, 0, 0]), (114, [], [26]), (101, [], [0, 0, 0, 0, 0, 0]), (4, [(4, 25), (1, 1)], []), (114, [], [26]), (7, [(4, 27), (4, (-1)), (4, (-1))], []), (117, [], [17, 18, 19, 28]), jzA_1831]
def jpA_1879 : List JC := [jzA_1833, jgh, jgh, jgh, jgh, jgh, jgh, jgh, jgh, jgh, jzA_102, jzA_88, jgh, (117, [], [17, 18, 19, 20]), jgh, jgh, jgh, jgh, jgh, jgh, (7, [(4, 21), (4, (-1)), (4, (-1))], []), (114, [], [22]), (4, [(4, 23), (1, 1)], []), (101, [], [0, 0, 0, 0, 0, 0]), (114, [], [26]), (101, [], [0, 0, 0, 0, 0, 0]), (4, [(4, 25), (1, 1)], []), (114, [], [26]), (7, [(4, 27), (4, (-1)), (4, (-1))], []), (117, [], [17, 18, 19, 28]), jzA_1831]
theorem jA_129_490 {xs : List Int} {d : Nat} : jT xs (d + 4) 129 24 0 [(0, (4, 0)), (1, (0, 3)), (2, (0, 0))] [] jpA_1873 7 22 (fun k v hsN => k = 0 ∧ v = (0, 1) ∧ hsN = jpA_1879) := by
  refine jT_advK 3 (pcN := 3) (LN := [(0, (4, 0)), (1, (0, 3)), (2, (0, 0))]) (stN := [(0, 4), (0, 3), (4, 0)]) (hsN := jpA_1873) (c1 := 0) (s1 := 0) (c2 := 7) (s2 := 22) (by decide +kernel) ?_ (by omega) (by omega)
  refine jT_fR [0] 24 (y := 115) (pcN := 6) (dC := 0) (bc1 := 0) (bc2 := 0) (c1 := 7) (c2 := 22) (as := [(4, 0), (0, 3), (0, 4)]) (asC := [(4, 0), (0, 3), (0, 4)]) (LN := [(0, (4, 0)), (1, (0, 3)), (2, (0, 0))]) (stN := []) (hsC := [jgh]) (v := (9, 0)) (st2 := []) (jA_115_387 (d := 0)) (by rfl) (by rfl) (by decide +kernel) (by rfl) (by rfl) (by omega) (by omega) (by omega) (by omega) rfl ?_
  refine jT_advK 3 (pcN := 11) (LN := [(0, (4, 0)), (1, (0, 3)), (2, (0, 0))]) (stN := [(0, 3), (4, 11)]) (hsN := jpA_1873) (c1 := 0) (s1 := 0) (c2 := 7) (s2 := 22) (by decide +kernel) ?_ (by omega) (by omega)
  refine jT_fR [11, 12, 13, 14, 15, 16, 17, 18, 19, 20] 24 (y := 56) (pcN := 14) (dC := 0) (bc1 := 0) (bc2 := 0) (c1 := 7) (c2 := 22) (as := [(4, 11), (0, 3)]) (asC := [(4, 0), (0, 3)]) (LN := [(0, (4, 0)), (1, (0, 3)), (2, (0, 0))]) (stN := []) (hsC := jpA_1446) (v := (4, 9)) (st2 := [(4, 20)]) (jA_56_388 (d := 0)) (by rfl) (by rfl) (by decide +kernel) (by rfl) (by rfl) (by omega) (by omega) (by omega) (by omega) rfl ?_
  refine jT_advK 4 (pcN := 18) (LN := [(3, (4, 20)), (0, (4, 0)), (1, (0, 3)), (2, (0, 0))]) (stN := [(4, 20), (0, 0), (4, 0)]) (hsN := jpA_1873) (c1 := 0) (s1 := 0) (c2 := 7) (s2 := 22) (by decide +kernel) ?_ (by omega) (by omega)
  refine jT_fR [20, 21, 22] 24 (y := 29) (pcN := 21) (dC := 0) (bc1 := 0) (bc2 := 0) (c1 := 7) (c2 := 22) (as := [(4, 20)]) (asC := [(4, 0)]) (LN := [(3, (4, 20)), (0, (4, 0)), (1, (0, 3)), (2, (0, 0))]) (stN := [(0, 0), (4, 0)]) (hsC := [(7, [(4, 1), (4, (-1)), (4, (-1))], []), (114, [], [2]), jgh]) (v := (0, 1)) (st2 := [(0, 1), (0, 0), (4, 0)]) (jA_29_416 (d := 0)) (by rfl) (by rfl) (by decide +kernel) (by rfl) (by rfl) (by omega) (by omega) (by omega) (by omega) rfl ?_
  refine jT_fR [0] 24 (y := 115) (pcN := 24) (dC := 0) (bc1 := 0) (bc2 := 0) (c1 := 7) (c2 := 22) (as := [(4, 0), (0, 0), (0, 1)]) (asC := [(4, 0), (0, 0), (0, 1)]) (LN := [(3, (4, 20)), (0, (4, 0)), (1, (0, 3)), (2, (0, 0))]) (stN := []) (hsC := [jgh]) (v := (9, 0)) (st2 := []) (jA_115_443 (d := 0)) (by rfl) (by rfl) (by decide +kernel) (by rfl) (by rfl) (by omega) (by omega) (by omega) (by omega) rfl ?_
  refine jT_advK 1 (pcN := 25) (LN := [(3, (4, 20)), (0, (4, 0)), (1, (0, 3)), (2, (0, 0))]) (stN := [(4, 20)]) (hsN := jpA_1873) (c1 := 0) (s1 := 0) (c2 := 7) (s2 := 22) (by decide +kernel) ?_ (by omega) (by omega)
  refine jT_fR [20, 21, 22] 24 (y := 29) (pcN := 28) (dC := 0) (bc1 := 0) (bc2 := 0) (c1 := 7) (c2 := 22) (as := [(4, 20)]) (asC := [(4, 0)]) (LN := [(3, (4, 20)), (0, (4, 0)), (1, (0, 3)), (2, (0, 0))]) (stN := []) (hsC := [(7, [(4, 1), (4, (-1)), (4, (-1))], []), (114, [], [2]), jgh]) (v := (0, 1)) (st2 := [(0, 1)]) (jA_29_416 (d := 0)) (by rfl) (by rfl) (by decide +kernel) (by rfl) (by rfl) (by omega) (by omega) (by omega) (by omega) rfl ?_
  refine jT_advK 13 (pcN := 52) (LN := [(5, (0, 0)), (4, (4, 24)), (3, (4, 20)), (0, (4, 0)), (1, (0, 3)), (2, (0, 0))]) (stN := [(0, 0), (0, 0), (4, 20), (0, 0), (4, 24)]) (hsN := jpA_1874) (c1 := 1) (s1 := 1) (c2 := 6) (s2 := 21) (by decide +kernel) ?_ (by omega) (by omega)
  refine jT_fA [20, 21, 22, 23] 25 (y := 32) (pcN := 55) (dC := 3) (bc1 := 2) (bc2 := 8) (c1 := 4) (c2 := 13) (as := [(4, 20), (0, 0), (0, 0)]) (asC := [(4, 0), (0, 0), (0, 0)]) (LN := [(5, (0, 0)), (4, (4, 24)), (3, (4, 20)), (0, (4, 0)), (1, (0, 3)), (2, (0, 0))]) (stN := [(0, 0), (4, 24)]) (hsC := jpA_1822) (ex := [(101, [], [0, 0, 0, 0, 0, 0]), (4, [(4, 4), (1, 1)], [])]) (v := (4, 5)) (st2 := [(4, 26), (0, 0), (4, 24)]) (hs2 := jpA_1875) (jA_32_444 (d := 0)) (by rfl) (by rfl) (by decide +kernel) (by rfl) (by rfl) (by omega) (by omega) (by omega) (by omega) rfl (by decide +kernel) ?_
  refine jT_advK 5 (pcN := 62) (LN := [(5, (0, 0)), (4, (4, 24)), (3, (4, 20)), (0, (4, 0)), (1, (0, 3)), (2, (0, 0))]) (stN := [(4, 26), (4, 0)]) (hsN := jpA_1876) (c1 := 0) (s1 := 0) (c2 := 4) (s2 := 13) (by decide +kernel) ?_ (by omega) (by omega)
  refine jT_fR [0, 26, 25] 27 (y := 117) (pcN := 65) (dC := 2) (bc1 := 0) (bc2 := 0) (c1 := 4) (c2 := 13) (as := [(4, 0), (4, 26)]) (asC := [(4, 0), (4, 1)]) (LN := [(5, (0, 0)), (4, (4, 24)), (3, (4, 20)), (0, (4, 0)), (1, (0, 3)), (2, (0, 0))]) (stN := []) (hsC := [jgh, (4, [(4, 2), (1, 1)], []), (101, [], [0, 0, 0, 0, 0, 0])]) (v := (9, 0)) (st2 := []) (jA_117_31 (d := 0)) (by rfl) (by rfl) (by decide +kernel) (by rfl) (by rfl) (by omega) (by omega) (by omega) (by omega) rfl ?_
  refine jT_advK 13 (pcN := 82) (LN := [(5, (0, 1)), (4, (4, 24)), (3, (4, 20)), (0, (4, 0)), (1, (0, 3)), (2, (0, 0))]) (stN := [(0, 1), (4, 24), (0, 3), (4, 11), (4, 0)]) (hsN := jpA_1876) (c1 := 0) (s1 := 0) (c2 := 4) (s2 := 13) (by decide +kernel) ?_ (by omega) (by omega)
  refine jT_fA [24, 26, 25] 27 (y := 27) (pcN := 85) (dC := 1) (bc1 := 2) (bc2 := 4) (c1 := 2) (c2 := 9) (as := [(4, 24), (0, 1)]) (asC := [(4, 0), (0, 1)]) (LN := [(5, (0, 1)), (4, (4, 24)), (3, (4, 20)), (0, (4, 0)), (1, (0, 3)), (2, (0, 0))]) (stN := [(0, 3), (4, 11), (4, 0)]) (hsC := [(114, [], [1]), (4, [(4, 2), (1, 1)], []), jgh]) (ex := [(114, [], [1]), (7, [(4, 3), (4, (-1)), (4, (-1))], [])]) (v := (4, 4)) (st2 := [(4, 28), (0, 3), (4, 11), (4, 0)]) (hs2 := jpA_1877) (jA_27_445 (d := 0)) (by rfl) (by rfl) (by decide +kernel) (by rfl) (by rfl) (by omega) (by omega) (by omega) (by omega) rfl (by decide +kernel) ?_
  refine jT_fA [11, 28, 12, 13, 14, 15, 16, 27, 17, 18, 19, 20] 29 (y := 60) (pcN := 88) (dC := 1) (bc1 := 2) (bc2 := 9) (c1 := 0) (c2 := 0) (as := [(4, 11), (0, 3), (4, 28)]) (asC := [(4, 0), (0, 3), (4, 1)]) (LN := [(5, (0, 1)), (4, (4, 24)), (3, (4, 20)), (0, (4, 0)), (1, (0, 3)), (2, (0, 0))]) (stN := [(4, 0)]) (hsC := jpA_1461) (ex := [(117, [], [8, 9, 10, 1]), jzA_1459]) (v := (4, 13)) (st2 := [(4, 30), (4, 0)]) (hs2 := jpA_1878) (jA_60_389 (d := 0)) (by rfl) (by rfl) (by decide +kernel) (by rfl) (by rfl) (by omega) (by omega) (by omega) (by omega) rfl (by decide +kernel) ?_
  refine jT_fB [0, 30, 1, 2, 3, 4, 5, 6, 7, 8, 9, 10, 11, 12, 13, 14, 15, 16] 31 (y := 100) (pcN := 91) (dC := 0) (bc1 := 0) (bc2 := 0) (c1 := 0) (c2 := 0) (as := [(4, 0), (4, 30)]) (asC := [(4, 0), (4, 1)]) (LN := [(5, (0, 1)), (4, (4, 24)), (3, (4, 20)), (0, (4, 0)), (1, (0, 3)), (2, (0, 0))]) (stN := []) (hsC := jpA_80) (hsD := jpA_78) (v := (9, 0)) (st2 := []) (hs2 := jpA_1879) (jA_100_34 (d := 0)) (by rfl) (by rfl) (by decide +kernel) (by rfl) (by rfl) (by omega) (by omega) (by omega) (by omega) rfl (by decide +kernel) ?_
  refine jT_advK 2 (pcN := 94) (LN := [(5, (0, 1)), (4, (4, 24)), (3, (4, 20)), (0, (4, 0)), (1, (0, 3)), (2, (0, 0))]) (stN := [(0, 1)]) (hsN := jpA_1879) (c1 := 0) (s1 := 0) (c2 := 0) (s2 := 0) (by decide +kernel) ?_ (by omega) (by omega)
  exact jT_ret rfl (by decide) (by show 24 ≤ 31; decide) (by omega) (by omega) ⟨rfl, rfl, rfl⟩
def jpA_1880 : List JC := [jzA_14, (101, [], [0]), jgh, jgh, jgh, jgh, jgh, jgh, jgh, jgh, jgh, jzA_79, jzA_77, jgh, (117, [], [18, 19, 20, 21]), jgh, jgh, jgh, jgh, jgh, jgh, (7, [(4, 22), (4, (-1)), (4, (-1))], []), (114, [], [23]), (4, [(4, 24), (1, 1)], []), (101, [], [0, 0, 0, 0, 0, 0])]
def jpA_1881 : List JC := [jzA_1836, (101, [], [0]), jgh, jgh, jgh, jgh, jgh, jgh, jgh, jgh, jgh, jzA_76, jzA_77, jgh, (117, [], [18, 19, 20, 21]), jgh, jgh, jgh, jgh, jgh, jgh, (7, [(4, 22), (4, (-1)), (4, (-1))], []), (114, [], [23]), (4, [(4, 24), (1, 1)], []), (101, [], [0, 0, 0, 0, 0, 0]), (114, [], [27]), (101, [], [0, 0, 0, 0, 0, 0]), (4, [(4, 26), (1, 1)], []), (114, [], [27]), (7, [(4, 28), (4, (-1)), (4, (-1))], []), (117, [], [18, 19, 20, 29]), jzA_1837]
def jpA_1882 : List JC := [jzA_1836, (101, [], [1]), jgh, jgh, jgh, jgh, jgh, jgh, jgh, jgh, jgh, jzA_76, jzA_77, jgh, (117, [], [18, 19, 20, 21]), jgh, jgh, jgh, jgh, jgh, jgh, (7, [(4, 22), (4, (-1)), (4, (-1))], []), (114, [], [23]), (4, [(4, 24), (1, 1)], []), (101, [], [0, 0, 0, 0, 0, 0]), (114, [], [27]), (101, [], [0, 0, 0, 0, 0, 0]), (4, [(4, 26), (1, 1)], []), (114, [], [27]), (7, [(4, 28), (4, (-1)), (4, (-1))], []), (117, [], [18, 19, 20, 29]), jzA_1837]
theorem jA_337_491 {xs : List Int} {d : Nat} : jT xs (d + 5) 337 25 0 [(0, (4, 0)), (1, (0, 3)), (2, (0, 0)), (3, (4, 1))] [] jpA_1880 7 22 (fun k v hsN => k = 0 ∧ v = (0, 0) ∧ hsN = jpA_1882) := by
  refine jT_advK 5 (pcN := 5) (LN := [(0, (4, 0)), (1, (0, 3)), (2, (0, 0)), (3, (4, 1))]) (stN := [(0, 0), (0, 3), (4, 0), (0, 0), (4, 1)]) (hsN := jpA_1880) (c1 := 0) (s1 := 0) (c2 := 7) (s2 := 22) (by decide +kernel) ?_ (by omega) (by omega)
  refine jT_fB [0, 2, 3, 4, 5, 6, 7, 8, 9, 10, 11, 12, 13, 14, 15, 16, 17, 18, 19, 20, 21, 22, 23, 24] 25 (y := 129) (pcN := 8) (dC := 4) (bc1 := 7) (bc2 := 22) (c1 := 0) (c2 := 0) (as := [(4, 0), (0, 3), (0, 0)]) (asC := [(4, 0), (0, 3), (0, 0)]) (LN := [(0, (4, 0)), (1, (0, 3)), (2, (0, 0)), (3, (4, 1))]) (stN := [(0, 0), (4, 1)]) (hsC := jpA_1873) (hsD := jpA_1879) (v := (0, 1)) (st2 := [(0, 1), (0, 0), (4, 1)]) (hs2 := jpA_1881) (jA_129_490 (d := 0)) (by rfl) (by rfl) (by decide +kernel) (by rfl) (by rfl) (by omega) (by omega) (by omega) (by omega) rfl (by decide +kernel) ?_
  refine jT_advK 4 (pcN := 22) (LN := [(0, (4, 0)), (1, (0, 3)), (2, (0, 0)), (3, (4, 1))]) (stN := [(0, 0)]) (hsN := jpA_1882) (c1 := 0) (s1 := 0) (c2 := 0) (s2 := 0) (by decide +kernel) ?_ (by omega) (by omega)
  exact jT_ret rfl (by decide) (by show 25 ≤ 32; decide) (by omega) (by omega) ⟨rfl, rfl, rfl⟩
theorem jA_247_492 {xs : List Int} {d : Nat} : jT xs (d + 1) 247 16 0 [(0, (4, 0)), (1, (0, 3)), (2, (0, 0))] [] jpA_1519 0 0 (fun k v hsN => k = 0 ∧ v = (0, 1) ∧ hsN = jpA_1519 ++ []) := by
  refine jT_advK 5 (pcN := 5) (LN := [(0, (4, 0)), (1, (0, 3)), (2, (0, 0))]) (stN := [(0, 3), (4, 0), (1, 0), (1, 0)]) (hsN := jpA_1519) (c1 := 0) (s1 := 0) (c2 := 0) (s2 := 0) (by decide +kernel) ?_ (by omega) (by omega)
  refine jT_fR [0, 1, 2, 3, 4, 5, 6, 7, 8, 9, 10, 11, 12, 13, 14, 15] 16 (y := 245) (pcN := 8) (dC := 0) (bc1 := 0) (bc2 := 0) (c1 := 0) (c2 := 0) (as := [(4, 0), (0, 3)]) (asC := [(4, 0), (0, 3)]) (LN := [(0, (4, 0)), (1, (0, 3)), (2, (0, 0))]) (stN := [(1, 0), (1, 0)]) (hsC := jpA_1519) (v := (0, 1)) (st2 := [(0, 1), (1, 0), (1, 0)]) (jA_245_394 (d := 0)) (by rfl) (by rfl) (by decide +kernel) (by rfl) (by rfl) (by omega) (by omega) (by omega) (by omega) rfl ?_
  refine jT_advK 3 (pcN := 11) (LN := [(0, (4, 0)), (1, (0, 3)), (2, (0, 0))]) (stN := [(1, 0), (1, 0), (1, 0)]) (hsN := jpA_1519) (c1 := 0) (s1 := 0) (c2 := 0) (s2 := 0) (by decide +kernel) ?_ (by omega) (by omega)
  refine jT_fR [] 16 (y := 189) (pcN := 14) (dC := 0) (bc1 := 0) (bc2 := 0) (c1 := 0) (c2 := 0) (as := [(1, 0), (1, 0), (1, 0)]) (asC := [(1, 0), (1, 0), (1, 0)]) (LN := [(0, (4, 0)), (1, (0, 3)), (2, (0, 0))]) (stN := []) (hsC := []) (v := (0, 1)) (st2 := [(0, 1)]) (jA_189_448 (d := 0)) (by rfl) (by rfl) (by decide +kernel) (by rfl) (by rfl) (by omega) (by omega) (by omega) (by omega) rfl ?_
  exact jT_ret rfl (by decide) (by show 16 ≤ 16; decide) (by omega) (by omega) ⟨rfl, rfl, rfl⟩
theorem jA_204_493 {xs : List Int} {d : Nat} : jT xs (d + 2) 204 16 0 [(0, (4, 0)), (1, (4, 1)), (2, (0, 900)), (3, (1, (-1)))] [] jpA_130 0 0 (fun k v hsN => k = 0 ∧ v = (9, 0) ∧ hsN = jpA_130 ++ []) := by
  refine jT_advK 4 (pcN := 5) (LN := [(0, (4, 0)), (1, (4, 1)), (2, (0, 900)), (3, (1, (-1)))]) (stN := [(0, 906), (4, 1)]) (hsN := jpA_130) (c1 := 0) (s1 := 0) (c2 := 0) (s2 := 0) (by decide +kernel) ?_ (by omega) (by omega)
  refine jT_iald (x := 1) (a := 1) (j := 906) (fs := []) (X := jS0) (by rfl) (by rfl) (by rfl) (by rfl) (by decide +kernel) ?_
  refine jT_eq (LN := [(0, (4, 0)), (1, (4, 1)), (2, (0, 900)), (3, (1, (-1)))]) (stN := [(0, 1)]) (hsN := jpA_130) rfl rfl rfl ?_
  refine jT_advK 7 (pcN := 19) (LN := [(5, (1, 1)), (0, (4, 0)), (1, (4, 1)), (2, (0, 900)), (3, (1, (-1)))]) (stN := [(1, 1), (1, 1), (1, 1)]) (hsN := jpA_130) (c1 := 0) (s1 := 0) (c2 := 0) (s2 := 0) (by decide +kernel) ?_ (by omega) (by omega)
  refine jT_fR [] 16 (y := 194) (pcN := 22) (dC := 1) (bc1 := 0) (bc2 := 0) (c1 := 0) (c2 := 0) (as := [(1, 1), (1, 1)]) (asC := [(1, 1), (1, 1)]) (LN := [(5, (1, 1)), (0, (4, 0)), (1, (4, 1)), (2, (0, 900)), (3, (1, (-1)))]) (stN := [(1, 1)]) (hsC := []) (v := (1, 1)) (st2 := [(1, 1), (1, 1)]) (jA_194_43 (d := 0)) (by rfl) (by rfl) (by decide +kernel) (by rfl) (by rfl) (by omega) (by omega) (by omega) (by omega) rfl ?_
  refine jT_advK 26 (pcN := 65) (LN := [(9, (0, 0)), (7, (1, 1)), (5, (1, 1)), (0, (4, 0)), (1, (4, 1)), (2, (0, 900)), (3, (1, (-1)))]) (stN := [(0, 900), (4, 1), (1, (-1)), (1, 0), (0, 0), (4, 7)]) (hsN := jpA_130) (c1 := 0) (s1 := 0) (c2 := 0) (s2 := 0) (by decide +kernel) ?_ (by omega) (by omega)
  refine jT_iald (x := 0) (a := 1) (j := 900) (fs := []) (X := jS0) (by rfl) (by rfl) (by rfl) (by rfl) (by decide +kernel) ?_
  refine jT_eq (LN := [(9, (0, 0)), (7, (1, 1)), (5, (1, 1)), (0, (4, 0)), (1, (4, 1)), (2, (0, 900)), (3, (1, (-1)))]) (stN := [(0, 0), (1, (-1)), (1, 0), (0, 0), (4, 7)]) (hsN := jpA_130) rfl rfl rfl ?_
  refine jT_advK 30 (pcN := 65) (LN := [(9, (0, 1)), (7, (1, 1)), (5, (1, 1)), (0, (4, 0)), (1, (4, 1)), (2, (0, 900)), (3, (1, (-1)))]) (stN := [(0, 901), (4, 1), (1, (-1)), (1, 0), (0, 1), (4, 7)]) (hsN := jpA_130) (c1 := 0) (s1 := 0) (c2 := 0) (s2 := 0) (by decide +kernel) ?_ (by omega) (by omega)
  refine jT_iald (x := 0) (a := 1) (j := 901) (fs := []) (X := jS0) (by rfl) (by rfl) (by rfl) (by rfl) (by decide +kernel) ?_
  refine jT_eq (LN := [(9, (0, 1)), (7, (1, 1)), (5, (1, 1)), (0, (4, 0)), (1, (4, 1)), (2, (0, 900)), (3, (1, (-1)))]) (stN := [(0, 0), (1, (-1)), (1, 0), (0, 1), (4, 7)]) (hsN := jpA_130) rfl rfl rfl ?_
  refine jT_advK 30 (pcN := 65) (LN := [(9, (0, 2)), (7, (1, 1)), (5, (1, 1)), (0, (4, 0)), (1, (4, 1)), (2, (0, 900)), (3, (1, (-1)))]) (stN := [(0, 902), (4, 1), (1, (-1)), (1, 0), (0, 2), (4, 7)]) (hsN := jpA_130) (c1 := 0) (s1 := 0) (c2 := 0) (s2 := 0) (by decide +kernel) ?_ (by omega) (by omega)
  refine jT_iald (x := 0) (a := 1) (j := 902) (fs := []) (X := jS0) (by rfl) (by rfl) (by rfl) (by rfl) (by decide +kernel) ?_
  refine jT_eq (LN := [(9, (0, 2)), (7, (1, 1)), (5, (1, 1)), (0, (4, 0)), (1, (4, 1)), (2, (0, 900)), (3, (1, (-1)))]) (stN := [(0, 0), (1, (-1)), (1, 0), (0, 2), (4, 7)]) (hsN := jpA_130) rfl rfl rfl ?_
  refine jT_advK 30 (pcN := 65) (LN := [(9, (0, 3)), (7, (1, 1)), (5, (1, 1)), (0, (4, 0)), (1, (4, 1)), (2, (0, 900)), (3, (1, (-1)))]) (stN := [(0, 903), (4, 1), (1, (-1)), (1, 0), (0, 3), (4, 7)]) (hsN := jpA_130) (c1 := 0) (s1 := 0) (c2 := 0) (s2 := 0) (by decide +kernel) ?_ (by omega) (by omega)
  refine jT_iald (x := 0) (a := 1) (j := 903) (fs := []) (X := jS0) (by rfl) (by rfl) (by rfl) (by rfl) (by decide +kernel) ?_
  refine jT_eq (LN := [(9, (0, 3)), (7, (1, 1)), (5, (1, 1)), (0, (4, 0)), (1, (4, 1)), (2, (0, 900)), (3, (1, (-1)))]) (stN := [(0, 0), (1, (-1)), (1, 0), (0, 3), (4, 7)]) (hsN := jpA_130) rfl rfl rfl ?_
  refine jT_advK 30 (pcN := 65) (LN := [(9, (0, 4)), (7, (1, 1)), (5, (1, 1)), (0, (4, 0)), (1, (4, 1)), (2, (0, 900)), (3, (1, (-1)))]) (stN := [(0, 904), (4, 1), (1, (-1)), (1, 0), (0, 4), (4, 7)]) (hsN := jpA_130) (c1 := 0) (s1 := 0) (c2 := 0) (s2 := 0) (by decide +kernel) ?_ (by omega) (by omega)
  refine jT_iald (x := 0) (a := 1) (j := 904) (fs := []) (X := jS0) (by rfl) (by rfl) (by rfl) (by rfl) (by decide +kernel) ?_
  refine jT_eq (LN := [(9, (0, 4)), (7, (1, 1)), (5, (1, 1)), (0, (4, 0)), (1, (4, 1)), (2, (0, 900)), (3, (1, (-1)))]) (stN := [(0, 0), (1, (-1)), (1, 0), (0, 4), (4, 7)]) (hsN := jpA_130) rfl rfl rfl ?_
  refine jT_advK 30 (pcN := 65) (LN := [(9, (0, 5)), (7, (1, 1)), (5, (1, 1)), (0, (4, 0)), (1, (4, 1)), (2, (0, 900)), (3, (1, (-1)))]) (stN := [(0, 905), (4, 1), (1, (-1)), (1, 0), (0, 5), (4, 7)]) (hsN := jpA_130) (c1 := 0) (s1 := 0) (c2 := 0) (s2 := 0) (by decide +kernel) ?_ (by omega) (by omega)
  refine jT_iald (x := 0) (a := 1) (j := 905) (fs := []) (X := jS0) (by rfl) (by rfl) (by rfl) (by rfl) (by decide +kernel) ?_
  refine jT_eq (LN := [(9, (0, 5)), (7, (1, 1)), (5, (1, 1)), (0, (4, 0)), (1, (4, 1)), (2, (0, 900)), (3, (1, (-1)))]) (stN := [(0, 0), (1, (-1)), (1, 0), (0, 5), (4, 7)]) (hsN := jpA_130) rfl rfl rfl ?_
  refine jT_advK 17 (pcN := 89) (LN := [(9, (0, 6)), (7, (1, 1)), (5, (1, 1)), (0, (4, 0)), (1, (4, 1)), (2, (0, 900)), (3, (1, (-1)))]) (stN := [(4, 0)]) (hsN := jpA_130) (c1 := 0) (s1 := 0) (c2 := 0) (s2 := 0) (by decide +kernel) ?_ (by omega) (by omega)
  refine jT_fR [0, 1, 2, 3, 4, 5, 6, 7, 8, 9, 10, 11, 12, 13, 14, 15] 16 (y := 199) (pcN := 92) (dC := 1) (bc1 := 0) (bc2 := 0) (c1 := 0) (c2 := 0) (as := [(4, 0)]) (asC := [(4, 0)]) (LN := [(9, (0, 6)), (7, (1, 1)), (5, (1, 1)), (0, (4, 0)), (1, (4, 1)), (2, (0, 900)), (3, (1, (-1)))]) (stN := []) (hsC := jpA_147) (v := (9, 0)) (st2 := []) (jA_199_45 (d := 0)) (by rfl) (by rfl) (by decide +kernel) (by rfl) (by rfl) (by omega) (by omega) (by omega) (by omega) rfl ?_
  exact jT_ret rfl (by decide) (by show 16 ≤ 16; decide) (by omega) (by omega) ⟨rfl, rfl, rfl⟩
theorem jA_248_494 {xs : List Int} {d : Nat} : jT xs (d + 3) 248 16 0 [(0, (4, 0)), (1, (0, 3)), (2, (0, 0))] [] jpA_1840 0 0 (fun k v hsN => k = 0 ∧ v = (0, 1) ∧ hsN = jpA_1841) := by
  refine jT_advK 10 (pcN := 14) (LN := [(4, (0, 0)), (3, (0, 1)), (0, (4, 0)), (1, (0, 3)), (2, (0, 0))]) (stN := [(0, 3), (4, 0), (0, 0)]) (hsN := jpA_1840) (c1 := 0) (s1 := 0) (c2 := 0) (s2 := 0) (by decide +kernel) ?_ (by omega) (by omega)
  refine jT_fR [0, 1, 2, 3, 4, 5, 6, 7, 8, 9, 10, 11, 12, 13, 14, 15] 16 (y := 245) (pcN := 17) (dC := 0) (bc1 := 0) (bc2 := 0) (c1 := 0) (c2 := 0) (as := [(4, 0), (0, 3)]) (asC := [(4, 0), (0, 3)]) (LN := [(4, (0, 0)), (3, (0, 1)), (0, (4, 0)), (1, (0, 3)), (2, (0, 0))]) (stN := [(0, 0)]) (hsC := jpA_1519) (v := (0, 1)) (st2 := [(0, 1), (0, 0)]) (jA_245_394 (d := 0)) (by rfl) (by rfl) (by decide +kernel) (by rfl) (by rfl) (by omega) (by omega) (by omega) (by omega) rfl ?_
  refine jT_advK 6 (pcN := 28) (LN := [(4, (0, 0)), (3, (0, 1)), (0, (4, 0)), (1, (0, 3)), (2, (0, 0))]) (stN := [(0, 0), (0, 3), (4, 1), (4, 0)]) (hsN := jpA_1840) (c1 := 0) (s1 := 0) (c2 := 0) (s2 := 0) (by decide +kernel) ?_ (by omega) (by omega)
  refine jT_fR [] 16 (y := 242) (pcN := 31) (dC := 0) (bc1 := 0) (bc2 := 0) (c1 := 0) (c2 := 0) (as := [(0, 3), (0, 0)]) (asC := [(0, 3), (0, 0)]) (LN := [(4, (0, 0)), (3, (0, 1)), (0, (4, 0)), (1, (0, 3)), (2, (0, 0))]) (stN := [(4, 1), (4, 0)]) (hsC := []) (v := (0, 900)) (st2 := [(0, 900), (4, 1), (4, 0)]) (jA_242_395 (d := 0)) (by rfl) (by rfl) (by decide +kernel) (by rfl) (by rfl) (by omega) (by omega) (by omega) (by omega) rfl ?_
  refine jT_fR [0, 1, 2, 3, 4, 5, 6, 7, 8, 9, 10, 11, 12, 13, 14, 15] 16 (y := 203) (pcN := 34) (dC := 0) (bc1 := 0) (bc2 := 0) (c1 := 0) (c2 := 0) (as := [(4, 0), (4, 1), (0, 900)]) (asC := [(4, 0), (4, 1), (0, 900)]) (LN := [(4, (0, 0)), (3, (0, 1)), (0, (4, 0)), (1, (0, 3)), (2, (0, 0))]) (stN := []) (hsC := jpA_130) (v := (9, 0)) (st2 := []) (jA_203_398 (d := 0)) (by rfl) (by rfl) (by decide +kernel) (by rfl) (by rfl) (by omega) (by omega) (by omega) (by omega) rfl ?_
  refine jT_advK 5 (pcN := 41) (LN := [(4, (0, 0)), (3, (0, 1)), (0, (4, 0)), (1, (0, 3)), (2, (0, 0))]) (stN := [(0, 0), (0, 3), (4, 1), (4, 0)]) (hsN := jpA_1840) (c1 := 0) (s1 := 0) (c2 := 0) (s2 := 0) (by decide +kernel) ?_ (by omega) (by omega)
  refine jT_fR [] 16 (y := 242) (pcN := 44) (dC := 0) (bc1 := 0) (bc2 := 0) (c1 := 0) (c2 := 0) (as := [(0, 3), (0, 0)]) (asC := [(0, 3), (0, 0)]) (LN := [(4, (0, 0)), (3, (0, 1)), (0, (4, 0)), (1, (0, 3)), (2, (0, 0))]) (stN := [(4, 1), (4, 0)]) (hsC := []) (v := (0, 900)) (st2 := [(0, 900), (4, 1), (4, 0)]) (jA_242_395 (d := 0)) (by rfl) (by rfl) (by decide +kernel) (by rfl) (by rfl) (by omega) (by omega) (by omega) (by omega) rfl ?_
  refine jT_advK 1 (pcN := 47) (LN := [(4, (0, 0)), (3, (0, 1)), (0, (4, 0)), (1, (0, 3)), (2, (0, 0))]) (stN := [(1, (-1)), (0, 900), (4, 1), (4, 0)]) (hsN := jpA_1840) (c1 := 0) (s1 := 0) (c2 := 0) (s2 := 0) (by decide +kernel) ?_ (by omega) (by omega)
  refine jT_fR [0, 1, 2, 3, 4, 5, 6, 7, 8, 9, 10, 11, 12, 13, 14, 15] 16 (y := 204) (pcN := 50) (dC := 2) (bc1 := 0) (bc2 := 0) (c1 := 0) (c2 := 0) (as := [(4, 0), (4, 1), (0, 900), (1, (-1))]) (asC := [(4, 0), (4, 1), (0, 900), (1, (-1))]) (LN := [(4, (0, 0)), (3, (0, 1)), (0, (4, 0)), (1, (0, 3)), (2, (0, 0))]) (stN := []) (hsC := jpA_130) (v := (9, 0)) (st2 := []) (jA_204_493 (d := 0)) (by rfl) (by rfl) (by decide +kernel) (by rfl) (by rfl) (by omega) (by omega) (by omega) (by omega) rfl ?_
  refine jT_advK 6 (pcN := 74) (LN := [(4, (0, 0)), (3, (0, 1)), (0, (4, 0)), (1, (0, 3)), (2, (0, 0))]) (stN := [(4, 0)]) (hsN := jpA_1840) (c1 := 0) (s1 := 0) (c2 := 0) (s2 := 0) (by decide +kernel) ?_ (by omega) (by omega)
  refine jT_fR [0, 1, 2, 3, 4, 5, 6, 7, 8, 9, 10, 11, 12, 13, 14, 15] 16 (y := 205) (pcN := 77) (dC := 1) (bc1 := 0) (bc2 := 0) (c1 := 0) (c2 := 0) (as := [(4, 0)]) (asC := [(4, 0)]) (LN := [(4, (0, 0)), (3, (0, 1)), (0, (4, 0)), (1, (0, 3)), (2, (0, 0))]) (stN := []) (hsC := jpA_147) (v := (0, 1)) (st2 := [(0, 1)]) (jA_205_48 (d := 0)) (by rfl) (by rfl) (by decide +kernel) (by rfl) (by rfl) (by omega) (by omega) (by omega) (by omega) rfl ?_
  refine jT_advK 7 (pcN := 91) (LN := [(3, (0, 1)), (4, (0, 0)), (0, (4, 0)), (1, (0, 3)), (2, (0, 0))]) (stN := [(4, 0)]) (hsN := jpA_1840) (c1 := 0) (s1 := 0) (c2 := 0) (s2 := 0) (by decide +kernel) ?_ (by omega) (by omega)
  refine jT_fB [0, 1, 2, 3, 4, 5, 6, 7, 8, 9, 10, 11, 12, 13, 14, 15] 16 (y := 239) (pcN := 94) (dC := 1) (bc1 := 0) (bc2 := 0) (c1 := 0) (c2 := 0) (as := [(4, 0)]) (asC := [(4, 0)]) (LN := [(3, (0, 1)), (4, (0, 0)), (0, (4, 0)), (1, (0, 3)), (2, (0, 0))]) (stN := []) (hsC := jpA_1541) (hsD := jpA_1544) (v := (9, 0)) (st2 := []) (hs2 := jpA_1841) (jA_239_346 (d := 0)) (by rfl) (by rfl) (by decide +kernel) (by rfl) (by rfl) (by omega) (by omega) (by omega) (by omega) rfl (by decide +kernel) ?_
  refine jT_advK 5 (pcN := 14) (LN := [(4, (0, 1)), (3, (0, 1)), (0, (4, 0)), (1, (0, 3)), (2, (0, 0))]) (stN := [(0, 3), (4, 0), (0, 1)]) (hsN := jpA_1841) (c1 := 0) (s1 := 0) (c2 := 0) (s2 := 0) (by decide +kernel) ?_ (by omega) (by omega)
  refine jT_fR [0, 1, 2, 3, 4, 5, 6, 7, 8, 9, 10, 11, 12, 13, 14, 15] 16 (y := 245) (pcN := 17) (dC := 0) (bc1 := 0) (bc2 := 0) (c1 := 0) (c2 := 0) (as := [(4, 0), (0, 3)]) (asC := [(4, 0), (0, 3)]) (LN := [(4, (0, 1)), (3, (0, 1)), (0, (4, 0)), (1, (0, 3)), (2, (0, 0))]) (stN := [(0, 1)]) (hsC := jpA_1545) (v := (0, 1)) (st2 := [(0, 1), (0, 1)]) (jA_245_399 (d := 0)) (by rfl) (by rfl) (by decide +kernel) (by rfl) (by rfl) (by omega) (by omega) (by omega) (by omega) rfl ?_
  refine jT_advK 2 (pcN := 101) (LN := [(4, (0, 1)), (3, (0, 1)), (0, (4, 0)), (1, (0, 3)), (2, (0, 0))]) (stN := [(0, 1)]) (hsN := jpA_1841) (c1 := 0) (s1 := 0) (c2 := 0) (s2 := 0) (by decide +kernel) ?_ (by omega) (by omega)
  exact jT_ret rfl (by decide) (by show 16 ≤ 16; decide) (by omega) (by omega) ⟨rfl, rfl, rfl⟩
def jpA_1883 : List JC := [jzA_1556, jzA_1673, (100, [], []), jzA_196, jzA_201, jgh, jgh, (101, [], [0, 0, 0, 0, 0, 0]), jzA_1539, jgh, jgh, jgh, jgh, jgh, jgh, jgh, (100, [], jS0), jgh, jgh, jgh, jgh, jgh, jgh, jgh]
theorem jA_246_495 {xs : List Int} {d : Nat} : jT xs (d + 4) 246 24 0 [(0, (4, 0)), (1, (0, 3)), (2, (0, 0))] [] jpA_1842 0 0 (fun k v hsN => k = 0 ∧ v = (0, 1) ∧ hsN = jpA_1883) := by
  refine jT_advK 2 (pcN := 2) (LN := [(0, (4, 0)), (1, (0, 3)), (2, (0, 0))]) (stN := [(0, 3), (4, 0)]) (hsN := jpA_1842) (c1 := 0) (s1 := 0) (c2 := 0) (s2 := 0) (by decide +kernel) ?_ (by omega) (by omega)
  refine jT_fR [] 24 (y := 238) (pcN := 5) (dC := 1) (bc1 := 0) (bc2 := 0) (c1 := 0) (c2 := 0) (as := [(0, 3)]) (asC := [(0, 3)]) (LN := [(0, (4, 0)), (1, (0, 3)), (2, (0, 0))]) (stN := [(4, 0)]) (hsC := []) (v := (0, 1)) (st2 := [(0, 1), (4, 0)]) (jA_238_393 (d := 0)) (by rfl) (by rfl) (by decide +kernel) (by rfl) (by rfl) (by omega) (by omega) (by omega) (by omega) rfl ?_
  refine jT_fR [0, 1, 2, 3, 4, 5, 6, 7, 8, 9, 10, 11, 12, 13, 14, 15] 24 (y := 190) (pcN := 8) (dC := 1) (bc1 := 0) (bc2 := 0) (c1 := 0) (c2 := 0) (as := [(4, 0), (0, 1)]) (asC := [(4, 0), (0, 1)]) (LN := [(0, (4, 0)), (1, (0, 3)), (2, (0, 0))]) (stN := []) (hsC := jpA_22) (v := (0, 0)) (st2 := [(0, 0)]) (jA_190_39 (d := 0)) (by rfl) (by rfl) (by decide +kernel) (by rfl) (by rfl) (by omega) (by omega) (by omega) (by omega) rfl ?_
  refine jT_advK 5 (pcN := 15) (LN := [(0, (4, 0)), (1, (0, 3)), (2, (0, 0))]) (stN := [(0, 0), (0, 3), (4, 0), (4, 0)]) (hsN := jpA_1842) (c1 := 0) (s1 := 0) (c2 := 0) (s2 := 0) (by decide +kernel) ?_ (by omega) (by omega)
  refine jT_fR [0, 1, 2, 3, 4, 5, 6, 7, 8, 9, 10, 11, 12, 13, 14, 15] 24 (y := 247) (pcN := 18) (dC := 1) (bc1 := 0) (bc2 := 0) (c1 := 0) (c2 := 0) (as := [(4, 0), (0, 3), (0, 0)]) (asC := [(4, 0), (0, 3), (0, 0)]) (LN := [(0, (4, 0)), (1, (0, 3)), (2, (0, 0))]) (stN := [(4, 0)]) (hsC := jpA_1519) (v := (0, 1)) (st2 := [(0, 1), (4, 0)]) (jA_247_492 (d := 0)) (by rfl) (by rfl) (by decide +kernel) (by rfl) (by rfl) (by omega) (by omega) (by omega) (by omega) rfl ?_
  refine jT_advK 1 (pcN := 19) (LN := [(0, (4, 0)), (1, (0, 3)), (2, (0, 0))]) (stN := [(0, 1), (0, 1), (4, 0)]) (hsN := jpA_1842) (c1 := 0) (s1 := 0) (c2 := 0) (s2 := 0) (by decide +kernel) ?_ (by omega) (by omega)
  refine jT_fR [0] 24 (y := 191) (pcN := 22) (dC := 0) (bc1 := 0) (bc2 := 0) (c1 := 0) (c2 := 0) (as := [(4, 0), (0, 1), (0, 1)]) (asC := [(4, 0), (0, 1), (0, 1)]) (LN := [(0, (4, 0)), (1, (0, 3)), (2, (0, 0))]) (stN := []) (hsC := [jgh]) (v := (0, 0)) (st2 := [(0, 0)]) (jA_191_38 (d := 0)) (by rfl) (by rfl) (by decide +kernel) (by rfl) (by rfl) (by omega) (by omega) (by omega) (by omega) rfl ?_
  refine jT_advK 5 (pcN := 29) (LN := [(0, (4, 0)), (1, (0, 3)), (2, (0, 0))]) (stN := [(0, 0), (0, 3), (4, 0), (4, 0)]) (hsN := jpA_1842) (c1 := 0) (s1 := 0) (c2 := 0) (s2 := 0) (by decide +kernel) ?_ (by omega) (by omega)
  refine jT_fB [0, 1, 2, 3, 4, 5, 6, 7, 8, 9, 10, 11, 12, 13, 14, 15] 24 (y := 248) (pcN := 32) (dC := 3) (bc1 := 0) (bc2 := 0) (c1 := 0) (c2 := 0) (as := [(4, 0), (0, 3), (0, 0)]) (asC := [(4, 0), (0, 3), (0, 0)]) (LN := [(0, (4, 0)), (1, (0, 3)), (2, (0, 0))]) (stN := [(4, 0)]) (hsC := jpA_1840) (hsD := jpA_1841) (v := (0, 1)) (st2 := [(0, 1), (4, 0)]) (hs2 := jpA_1843) (jA_248_494 (d := 0)) (by rfl) (by rfl) (by decide +kernel) (by rfl) (by rfl) (by omega) (by omega) (by omega) (by omega) rfl (by decide +kernel) ?_
  refine jT_advK 1 (pcN := 33) (LN := [(0, (4, 0)), (1, (0, 3)), (2, (0, 0))]) (stN := [(0, 2), (0, 1), (4, 0)]) (hsN := jpA_1843) (c1 := 0) (s1 := 0) (c2 := 0) (s2 := 0) (by decide +kernel) ?_ (by omega) (by omega)
  refine jT_fR [0] 24 (y := 191) (pcN := 36) (dC := 0) (bc1 := 0) (bc2 := 0) (c1 := 0) (c2 := 0) (as := [(4, 0), (0, 1), (0, 2)]) (asC := [(4, 0), (0, 1), (0, 2)]) (LN := [(0, (4, 0)), (1, (0, 3)), (2, (0, 0))]) (stN := []) (hsC := [jgh]) (v := (0, 0)) (st2 := [(0, 0)]) (jA_191_49 (d := 0)) (by rfl) (by rfl) (by decide +kernel) (by rfl) (by rfl) (by omega) (by omega) (by omega) (by omega) rfl ?_
  refine jT_advK 3 (pcN := 43) (LN := [(0, (4, 0)), (1, (0, 3)), (2, (0, 0))]) (stN := [(0, 3), (4, 0)]) (hsN := jpA_1843) (c1 := 0) (s1 := 0) (c2 := 0) (s2 := 0) (by decide +kernel) ?_ (by omega) (by omega)
  refine jT_fB [0, 1, 2, 3, 4, 5, 6, 7, 8, 9, 10, 11, 12, 13, 14, 15, 16, 17, 18, 19, 20, 21, 22, 23] 24 (y := 241) (pcN := 46) (dC := 1) (bc1 := 0) (bc2 := 0) (c1 := 0) (c2 := 0) (as := [(4, 0), (0, 3)]) (asC := [(4, 0), (0, 3)]) (LN := [(0, (4, 0)), (1, (0, 3)), (2, (0, 0))]) (stN := []) (hsC := jpA_1558) (hsD := jpA_1674) (v := (0, 1)) (st2 := [(0, 1)]) (hs2 := jpA_1883) (jA_241_400 (d := 0)) (by rfl) (by rfl) (by decide +kernel) (by rfl) (by rfl) (by omega) (by omega) (by omega) (by omega) rfl (by decide +kernel) ?_
  exact jT_ret rfl (by decide) (by show 24 ≤ 24; decide) (by omega) (by omega) ⟨rfl, rfl, rfl⟩
theorem jA_129_496 {xs : List Int} {d : Nat} {x2 : Int} (h_x2 : 1 ≤ x2 ∧ x2 ≤ 2147483647) : jT xs (d + 1) 129 23 0 [(0, (4, 0)), (1, (0, 3)), (2, (0, x2))] [] jpA_1871 1 6 (fun k v hsN => k = 1 ∧ v = (0, 0) ∧ hsN = jpA_1871 ++ []) := by
  refine jT_xaload_n (v := (4, 0)) (pcN := 1) jI_129_0 rfl rfl rfl ?_
  refine jT_xiload_n (v := (0, 3)) (pcN := 2) jI_129_1 rfl rfl rfl ?_
  refine jT_xiconst (k := 4) (pcN := 3) jI_129_2 rfl ?_
  refine jT_fR [0] 23 (y := 115) (pcN := 6) (dC := 0) (bc1 := 0) (bc2 := 0) (c1 := 1) (c2 := 6) (as := [(4, 0), (0, 3), (0, 4)]) (asC := [(4, 0), (0, 3), (0, 4)]) (LN := [(0, (4, 0)), (1, (0, 3)), (2, (0, x2))]) (stN := []) (hsC := [jgh]) (v := (9, 0)) (st2 := []) (jA_115_387 (d := 0)) (by rfl) (by rfl) (by decide +kernel) (by rfl) (by rfl) (by omega) (by omega) (by omega) (by omega) rfl ?_
  refine jT_xaload_n (v := (4, 0)) (pcN := 7) jI_129_6 rfl rfl rfl ?_
  refine jT_xgetf (a := 0) (t := 1) (ci := 13) (fi := 11) (c := jzA_5) (v := (4, 11)) (pcN := 10) jI_129_7 rfl rfl rfl rfl rfl rfl rfl ?_
  refine jT_xiload_n (v := (0, 3)) (pcN := 11) jI_129_10 rfl rfl rfl ?_
  refine jT_fR [11, 12, 13, 14, 15, 16, 17, 18, 19, 20] 23 (y := 56) (pcN := 14) (dC := 0) (bc1 := 0) (bc2 := 0) (c1 := 1) (c2 := 6) (as := [(4, 11), (0, 3)]) (asC := [(4, 0), (0, 3)]) (LN := [(0, (4, 0)), (1, (0, 3)), (2, (0, x2))]) (stN := []) (hsC := jpA_1446) (v := (4, 9)) (st2 := [(4, 20)]) (jA_56_388 (d := 0)) (by rfl) (by rfl) (by decide +kernel) (by rfl) (by rfl) (by omega) (by omega) (by omega) (by omega) rfl ?_
  refine jT_xastore_n (v := (4, 20)) (LN := [(3, (4, 20)), (0, (4, 0)), (1, (0, 3)), (2, (0, x2))]) (pcN := 15) jI_129_14 rfl rfl rfl rfl ?_
  refine jT_xaload_n (v := (4, 0)) (pcN := 16) jI_129_15 rfl rfl rfl ?_
  refine jT_xiload_n (v := (0, x2)) (pcN := 17) jI_129_16 rfl rfl rfl ?_
  refine jT_xaload_n (v := (4, 20)) (pcN := 18) jI_129_17 rfl rfl rfl ?_
  refine jT_fR [20, 21, 22] 23 (y := 29) (pcN := 21) (dC := 0) (bc1 := 0) (bc2 := 0) (c1 := 1) (c2 := 6) (as := [(4, 20)]) (asC := [(4, 0)]) (LN := [(3, (4, 20)), (0, (4, 0)), (1, (0, 3)), (2, (0, x2))]) (stN := [(0, x2), (4, 0)]) (hsC := [(7, [(4, 1), (4, (-1)), (4, (-1))], []), (114, [], [2]), jgh]) (v := (0, 1)) (st2 := [(0, 1), (0, x2), (4, 0)]) (jA_29_416 (d := 0)) (by rfl) (by rfl) (by decide +kernel) (by rfl) (by rfl) (by omega) (by omega) (by omega) (by omega) rfl ?_
  exact jT_fX [0] 23 (y := 115) (pcN := 24) (dC := 0) (bc1 := 1) (bc2 := 6) (as := [(4, 0), (0, x2), (0, 1)]) (asC := [(4, 0), (0, x2), (0, 1)]) (LN := [(3, (4, 20)), (0, (4, 0)), (1, (0, 3)), (2, (0, x2))]) (stN := []) (hsC := [jgh]) (e := 0) (jA_115_453 (d := 0) (by omega)) (by rfl) (by rfl) (by decide +kernel) (by rfl) (by rfl) (by omega) (by omega) (by omega) (by omega) ⟨rfl, ⟨rfl, rfl, rfl⟩⟩
theorem jA_337_497 {xs : List Int} {d : Nat} {x2 : Int} (h_x2 : 1 ≤ x2 ∧ x2 ≤ 2147483647) : jT xs (d + 2) 337 24 0 [(0, (4, 0)), (1, (0, 3)), (2, (0, x2)), (3, (4, 1))] [] jpA_1872 1 6 (fun k v hsN => k = 0 ∧ v = (0, 1) ∧ hsN = jpA_1872 ++ []) := by
  refine jT_xaload_n (v := (4, 1)) (pcN := 1) jI_337_0 rfl rfl rfl ?_
  refine jT_xiconst (k := 0) (pcN := 2) jI_337_1 rfl ?_
  refine jT_xaload_n (v := (4, 0)) (pcN := 3) jI_337_2 rfl rfl rfl ?_
  refine jT_xiload_n (v := (0, 3)) (pcN := 4) jI_337_3 rfl rfl rfl ?_
  refine jT_xiload_n (v := (0, x2)) (pcN := 5) jI_337_4 rfl rfl rfl ?_
  exact jT_fX [0, 2, 3, 4, 5, 6, 7, 8, 9, 10, 11, 12, 13, 14, 15, 16, 17, 18, 19, 20, 21, 22, 23] 24 (y := 129) (pcN := 8) (dC := 1) (bc1 := 1) (bc2 := 6) (as := [(4, 0), (0, 3), (0, x2)]) (asC := [(4, 0), (0, 3), (0, x2)]) (LN := [(0, (4, 0)), (1, (0, 3)), (2, (0, x2)), (3, (4, 1))]) (stN := [(0, 0), (4, 1)]) (hsC := jpA_1871) (e := 0) (jA_129_496 (d := 0) (by omega)) (by rfl) (by rfl) (by decide +kernel) (by rfl) (by rfl) (by omega) (by omega) (by omega) (by omega) (show _ from ⟨rfl, rfl, rfl⟩)
theorem jA_247_498 {xs : List Int} {d : Nat} {x2 : Int} (h_x2 : 1 ≤ x2 ∧ x2 ≤ 2147483647) : jT xs (d + 1) 247 16 0 [(0, (4, 0)), (1, (0, 3)), (2, (0, x2))] [] jpA_1519 0 0 (fun k v hsN => k = 0 ∧ v = (0, 0) ∧ hsN = jpA_1519 ++ []) := by
  refine jT_xiload_n (v := (0, x2)) (pcN := 1) jI_247_0 rfl rfl rfl ?_
  refine jT_xi2l (x := x2) (z := x2) (pcN := 2) jI_247_1 rfl (jw_idd (by omega) (by omega)) rfl ?_
  refine jT_xlconst (z := 0) (pcN := 3) jI_247_2 rfl rfl ?_
  refine jT_xaload_n (v := (4, 0)) (pcN := 4) jI_247_3 rfl rfl rfl ?_
  refine jT_xiload_n (v := (0, 3)) (pcN := 5) jI_247_4 rfl rfl rfl ?_
  refine jT_fR [0, 1, 2, 3, 4, 5, 6, 7, 8, 9, 10, 11, 12, 13, 14, 15] 16 (y := 245) (pcN := 8) (dC := 0) (bc1 := 0) (bc2 := 0) (c1 := 0) (c2 := 0) (as := [(4, 0), (0, 3)]) (asC := [(4, 0), (0, 3)]) (LN := [(0, (4, 0)), (1, (0, 3)), (2, (0, x2))]) (stN := [(1, 0), (1, x2)]) (hsC := jpA_1519) (v := (0, 1)) (st2 := [(0, 1), (1, 0), (1, x2)]) (jA_245_394 (d := 0)) (by rfl) (by rfl) (by decide +kernel) (by rfl) (by rfl) (by omega) (by omega) (by omega) (by omega) rfl ?_
  refine jT_xiconst (k := 1) (pcN := 9) jI_247_8 rfl ?_
  refine jT_xisub (x := 1) (y := 1) (z := 0) (pcN := 10) jI_247_9 rfl (by decide) rfl ?_
  refine jT_xi2l (x := 0) (z := 0) (pcN := 11) jI_247_10 rfl (by decide +kernel) rfl ?_
  refine jT_fR [] 16 (y := 189) (pcN := 14) (dC := 0) (bc1 := 0) (bc2 := 0) (c1 := 0) (c2 := 0) (as := [(1, x2), (1, 0), (1, 0)]) (asC := [(1, x2), (1, 0), (1, 0)]) (LN := [(0, (4, 0)), (1, (0, 3)), (2, (0, x2))]) (stN := []) (hsC := []) (v := (0, 0)) (st2 := [(0, 0)]) (jT_in_hi (d := 0) (v := x2) (lo := 0) (hi := 0) (by omega) (by omega) (by omega) (by omega) (by omega)) (by rfl) (by rfl) (by decide +kernel) (by rfl) (by rfl) (by omega) (by omega) (by omega) (by omega) rfl ?_
  exact jT_ret rfl (by decide) (by show 16 ≤ 16; decide) (by omega) (by omega) ⟨rfl, rfl, rfl⟩
theorem jA_246_499 {xs : List Int} {d : Nat} {x2 : Int} (h_x2 : 1 ≤ x2 ∧ x2 ≤ 2147483647) : jT xs (d + 2) 246 16 0 [(0, (4, 0)), (1, (0, 3)), (2, (0, x2))] [] jpA_1519 0 0 (fun k v hsN => k = 0 ∧ v = (0, 0) ∧ hsN = jpA_1820) := by
  refine jT_xaload_n (v := (4, 0)) (pcN := 1) jI_246_0 rfl rfl rfl ?_
  refine jT_xiload_n (v := (0, 3)) (pcN := 2) jI_246_1 rfl rfl rfl ?_
  refine jT_fR [] 16 (y := 238) (pcN := 5) (dC := 1) (bc1 := 0) (bc2 := 0) (c1 := 0) (c2 := 0) (as := [(0, 3)]) (asC := [(0, 3)]) (LN := [(0, (4, 0)), (1, (0, 3)), (2, (0, x2))]) (stN := [(4, 0)]) (hsC := []) (v := (0, 1)) (st2 := [(0, 1), (4, 0)]) (jA_238_393 (d := 0)) (by rfl) (by rfl) (by decide +kernel) (by rfl) (by rfl) (by omega) (by omega) (by omega) (by omega) rfl ?_
  refine jT_fR [0, 1, 2, 3, 4, 5, 6, 7, 8, 9, 10, 11, 12, 13, 14, 15] 16 (y := 190) (pcN := 8) (dC := 1) (bc1 := 0) (bc2 := 0) (c1 := 0) (c2 := 0) (as := [(4, 0), (0, 1)]) (asC := [(4, 0), (0, 1)]) (LN := [(0, (4, 0)), (1, (0, 3)), (2, (0, x2))]) (stN := []) (hsC := jpA_22) (v := (0, 0)) (st2 := [(0, 0)]) (jA_190_39 (d := 0)) (by rfl) (by rfl) (by decide +kernel) (by rfl) (by rfl) (by omega) (by omega) (by omega) (by omega) rfl ?_
  refine jT_xifF (t := 39) (pcN := 11) jI_246_8 rfl (by decide +kernel) rfl rfl ?_
  refine jT_xaload_n (v := (4, 0)) (pcN := 12) jI_246_11 rfl rfl rfl ?_
  refine jT_xaload_n (v := (4, 0)) (pcN := 13) jI_246_12 rfl rfl rfl ?_
  refine jT_xiload_n (v := (0, 3)) (pcN := 14) jI_246_13 rfl rfl rfl ?_
  refine jT_xiload_n (v := (0, x2)) (pcN := 15) jI_246_14 rfl rfl rfl ?_
  refine jT_fR [0, 1, 2, 3, 4, 5, 6, 7, 8, 9, 10, 11, 12, 13, 14, 15] 16 (y := 247) (pcN := 18) (dC := 1) (bc1 := 0) (bc2 := 0) (c1 := 0) (c2 := 0) (as := [(4, 0), (0, 3), (0, x2)]) (asC := [(4, 0), (0, 3), (0, x2)]) (LN := [(0, (4, 0)), (1, (0, 3)), (2, (0, x2))]) (stN := [(4, 0)]) (hsC := jpA_1519) (v := (0, 0)) (st2 := [(0, 0), (4, 0)]) (jA_247_498 (d := 0) (by omega)) (by rfl) (by rfl) (by decide +kernel) (by rfl) (by rfl) (by omega) (by omega) (by omega) (by omega) rfl ?_
  refine jT_xiconst (k := 1) (pcN := 19) jI_246_18 rfl ?_
  refine jT_fB [0, 1, 2, 3, 4, 5, 6, 7, 8, 9, 10, 11, 12, 13, 14, 15] 16 (y := 191) (pcN := 22) (dC := 0) (bc1 := 0) (bc2 := 0) (c1 := 0) (c2 := 0) (as := [(4, 0), (0, 0), (0, 1)]) (asC := [(4, 0), (0, 0), (0, 1)]) (LN := [(0, (4, 0)), (1, (0, 3)), (2, (0, x2))]) (stN := []) (hsC := jpA_22) (hsD := jpA_20) (v := (0, 1)) (st2 := [(0, 1)]) (hs2 := jpA_1820) (jA_191_5 (d := 0)) (by rfl) (by rfl) (by decide +kernel) (by rfl) (by rfl) (by omega) (by omega) (by omega) (by omega) rfl (by decide +kernel) ?_
  refine jT_xifT (pcN := 39) jI_246_22 rfl (by decide +kernel) rfl ?_
  refine jT_xiconst (k := 0) (pcN := 40) jI_246_39 rfl ?_
  exact jT_ret rfl (by decide) (by show 16 ≤ 16; decide) (by omega) (by omega) ⟨rfl, rfl, rfl⟩
theorem jA_129_500 {xs : List Int} {d : Nat} {x1 x2 : Int} (h_x1 : 4 ≤ x1 ∧ x1 ≤ 2147483647) (h_x2 : (-2147483648) ≤ x2 ∧ x2 ≤ 2147483647) : jT xs (d + 1) 129 12 0 [(0, (4, 0)), (1, (0, x1)), (2, (0, x2))] [] jpA_6 1 6 (fun k v hsN => k = 1 ∧ v = (0, 0) ∧ hsN = jpA_6 ++ []) := by
  refine jT_xaload_n (v := (4, 0)) (pcN := 1) jI_129_0 rfl rfl rfl ?_
  refine jT_xiload_n (v := (0, x1)) (pcN := 2) jI_129_1 rfl rfl rfl ?_
  refine jT_xiconst (k := 4) (pcN := 3) jI_129_2 rfl ?_
  exact jT_fX [0] 12 (y := 115) (pcN := 6) (dC := 0) (bc1 := 1) (bc2 := 6) (as := [(4, 0), (0, x1), (0, 4)]) (asC := [(4, 0), (0, x1), (0, 4)]) (LN := [(0, (4, 0)), (1, (0, x1)), (2, (0, x2))]) (stN := []) (hsC := [jgh]) (e := 0) (jA_115_405 (d := 0) (by omega)) (by rfl) (by rfl) (by decide +kernel) (by rfl) (by rfl) (by omega) (by omega) (by omega) (by omega) ⟨rfl, ⟨rfl, rfl, rfl⟩⟩
theorem jA_337_501 {xs : List Int} {d : Nat} {x1 x2 : Int} (h_x1 : 4 ≤ x1 ∧ x1 ≤ 2147483647) (h_x2 : (-2147483648) ≤ x2 ∧ x2 ≤ 2147483647) : jT xs (d + 2) 337 13 0 [(0, (4, 0)), (1, (0, x1)), (2, (0, x2)), (3, (4, 1))] [] jpA_15 1 6 (fun k v hsN => k = 0 ∧ v = (0, 1) ∧ hsN = jpA_15 ++ []) := by
  refine jT_xaload_n (v := (4, 1)) (pcN := 1) jI_337_0 rfl rfl rfl ?_
  refine jT_xiconst (k := 0) (pcN := 2) jI_337_1 rfl ?_
  refine jT_xaload_n (v := (4, 0)) (pcN := 3) jI_337_2 rfl rfl rfl ?_
  refine jT_xiload_n (v := (0, x1)) (pcN := 4) jI_337_3 rfl rfl rfl ?_
  refine jT_xiload_n (v := (0, x2)) (pcN := 5) jI_337_4 rfl rfl rfl ?_
  exact jT_fX [0, 2, 3, 4, 5, 6, 7, 8, 9, 10, 11, 12] 13 (y := 129) (pcN := 8) (dC := 1) (bc1 := 1) (bc2 := 6) (as := [(4, 0), (0, x1), (0, x2)]) (asC := [(4, 0), (0, x1), (0, x2)]) (LN := [(0, (4, 0)), (1, (0, x1)), (2, (0, x2)), (3, (4, 1))]) (stN := [(0, 0), (4, 1)]) (hsC := jpA_6) (e := 0) (jA_129_500 (d := 0) (by omega) (by omega)) (by rfl) (by rfl) (by decide +kernel) (by rfl) (by rfl) (by omega) (by omega) (by omega) (by omega) (show _ from ⟨rfl, rfl, rfl⟩)
theorem jA_246_502 {xs : List Int} {d : Nat} {x1 x2 : Int} (h_x1 : 4 ≤ x1 ∧ x1 ≤ 2147483647) (h_x2 : (-2147483648) ≤ x2 ∧ x2 ≤ 2147483647) : jT xs (d + 2) 246 16 0 [(0, (4, 0)), (1, (0, x1)), (2, (0, x2))] [] jpA_22 0 0 (fun k v hsN => k = 0 ∧ v = (0, 0) ∧ hsN = jpA_20) := by
  refine jT_xaload_n (v := (4, 0)) (pcN := 1) jI_246_0 rfl rfl rfl ?_
  refine jT_xiload_n (v := (0, x1)) (pcN := 2) jI_246_1 rfl rfl rfl ?_
  refine jT_fR [] 16 (y := 238) (pcN := 5) (dC := 1) (bc1 := 0) (bc2 := 0) (c1 := 0) (c2 := 0) (as := [(0, x1)]) (asC := [(0, x1)]) (LN := [(0, (4, 0)), (1, (0, x1)), (2, (0, x2))]) (stN := [(4, 0)]) (hsC := []) (v := (0, 0)) (st2 := [(0, 0), (4, 0)]) (jA_238_408 (d := 0) (by omega)) (by rfl) (by rfl) (by decide +kernel) (by rfl) (by rfl) (by omega) (by omega) (by omega) (by omega) rfl ?_
  refine jT_fB [0, 1, 2, 3, 4, 5, 6, 7, 8, 9, 10, 11, 12, 13, 14, 15] 16 (y := 190) (pcN := 8) (dC := 1) (bc1 := 0) (bc2 := 0) (c1 := 0) (c2 := 0) (as := [(4, 0), (0, 0)]) (asC := [(4, 0), (0, 0)]) (LN := [(0, (4, 0)), (1, (0, x1)), (2, (0, x2))]) (stN := []) (hsC := jpA_22) (hsD := jpA_20) (v := (0, 1)) (st2 := [(0, 1)]) (hs2 := jpA_20) (jA_190_6 (d := 0)) (by rfl) (by rfl) (by decide +kernel) (by rfl) (by rfl) (by omega) (by omega) (by omega) (by omega) rfl (by decide +kernel) ?_
  refine jT_xifT (pcN := 39) jI_246_8 rfl (by decide +kernel) rfl ?_
  refine jT_xiconst (k := 0) (pcN := 40) jI_246_39 rfl ?_
  exact jT_ret rfl (by decide) (by show 16 ≤ 16; decide) (by omega) (by omega) ⟨rfl, rfl, rfl⟩
theorem jI_379_1166 : jmI (jm 379) 1166 = (.aload_n 1, 1) := by rfl
theorem jI_379_1167 : jmI (jm 379) 1167 = (.aload_n 0, 1) := by rfl
theorem jI_379_1168 : jmI (jm 379) 1168 = (.iload 5, 2) := by rfl
theorem jI_379_1170 : jmI (jm 379) 1170 = (.iconst 1, 1) := by rfl
theorem jI_379_1171 : jmI (jm 379) 1171 = (.iadd, 1) := by rfl
theorem jI_379_1173 : jmI (jm 379) 1173 = (.aload_n 0, 1) := by rfl
theorem jI_379_1174 : jmI (jm 379) 1174 = (.iload 5, 2) := by rfl
theorem jI_379_1176 : jmI (jm 379) 1176 = (.iconst 2, 1) := by rfl
theorem jI_379_1177 : jmI (jm 379) 1177 = (.iadd, 1) := by rfl
theorem jI_379_1179 : jmI (jm 379) 1179 = (.aload_n 3, 1) := by rfl
theorem jI_379_1183 : jmI (jm 379) 1183 = (.istore 6, 2) := by rfl
theorem jI_379_1185 : jmI (jm 379) 1185 = (.aload_n 2, 1) := by rfl
theorem jI_379_1186 : jmI (jm 379) 1186 = (.aload_n 0, 1) := by rfl
theorem jI_379_1187 : jmI (jm 379) 1187 = (.iload 5, 2) := by rfl
theorem jI_379_1189 : jmI (jm 379) 1189 = (.iconst 1, 1) := by rfl
theorem jI_379_1190 : jmI (jm 379) 1190 = (.iadd, 1) := by rfl
theorem jI_379_1192 : jmI (jm 379) 1192 = (.aload_n 0, 1) := by rfl
theorem jI_379_1193 : jmI (jm 379) 1193 = (.iload 5, 2) := by rfl
theorem jI_379_1195 : jmI (jm 379) 1195 = (.iconst 2, 1) := by rfl
theorem jI_379_1196 : jmI (jm 379) 1196 = (.iadd, 1) := by rfl
theorem jI_379_1201 : jmI (jm 379) 1201 = (.istore 7, 2) := by rfl
theorem jI_379_1203 : jmI (jm 379) 1203 = (.aload_n 2, 1) := by rfl
theorem jI_379_1207 : jmI (jm 379) 1207 = (.iload 6, 2) := by rfl
theorem jI_379_1209 : jmI (jm 379) 1209 = (.if_icmp .eq 5, 3) := by rfl
theorem jI_379_1214 : jmI (jm 379) 1214 = (.iload 6, 2) := by rfl
theorem jI_379_1216 : jmI (jm 379) 1216 = (.ifCond .ne 15, 3) := by rfl
theorem jI_379_1231 : jmI (jm 379) 1231 = (.goto 2509, 3) := by rfl
set_option maxRecDepth 100000 in
theorem jL_11_0 {d : Nat} {x0 x1 x2 x3 x4 : Int} (h_x0 : (-2147483648) ≤ x0 ∧ x0 ≤ 2147483647) (h_x1 : (-2147483648) ≤ x1 ∧ x1 ≤ (-1)) (h_x2 : (-2147483648) ≤ x2 ∧ x2 ≤ 2147483647) (h_x3 : (-2147483648) ≤ x3 ∧ x3 ≤ 2147483647) (h_x4 : (-2147483648) ≤ x4 ∧ x4 ≤ 2147483647) : jT [x0, x1, x2, x3, x4] (d + 3) 379 30 1166 [(5, (0, 0)), (4, (4, 3)), (3, (4, 2)), (2, (4, 1)), (1, (4, 0)), (0, (6, 0))] [] jpA_267 1 6 (fun k v hsN => k = 0 ∧ v = (0, 1)) := by
  refine jT_xaload_n (v := (4, 0)) (pcN := 1167) jI_379_1166 rfl rfl rfl ?_
  refine jT_xaload_n (v := (6, 0)) (pcN := 1168) jI_379_1167 rfl rfl rfl ?_
  refine jT_xiload (v := (0, 0)) (pcN := 1170) jI_379_1168 rfl rfl rfl ?_
  refine jT_xiconst (k := 1) (pcN := 1171) jI_379_1170 rfl ?_
  refine jT_xiadd (x := 0) (y := 1) (z := 1) (pcN := 1172) jI_379_1171 rfl (by decide) rfl ?_
  refine jT_adv 1 (pcN := 1173) (LN := [(5, (0, 0)), (4, (4, 3)), (3, (4, 2)), (2, (4, 1)), (1, (4, 0)), (0, (6, 0))]) (stN := [(0, x1), (4, 0)]) (hsN := jpA_267) (c1 := 0) (s1 := 0) (c2 := 1) (s2 := 6) (by exact rfl) ?_ (by omega) (by omega)
  refine jT_xaload_n (v := (6, 0)) (pcN := 1174) jI_379_1173 rfl rfl rfl ?_
  refine jT_xiload (v := (0, 0)) (pcN := 1176) jI_379_1174 rfl rfl rfl ?_
  refine jT_xiconst (k := 2) (pcN := 1177) jI_379_1176 rfl ?_
  refine jT_xiadd (x := 0) (y := 2) (z := 2) (pcN := 1178) jI_379_1177 rfl (by decide) rfl ?_
  refine jT_adv 1 (pcN := 1179) (LN := [(5, (0, 0)), (4, (4, 3)), (3, (4, 2)), (2, (4, 1)), (1, (4, 0)), (0, (6, 0))]) (stN := [(0, x2), (0, x1), (4, 0)]) (hsN := jpA_267) (c1 := 0) (s1 := 0) (c2 := 1) (s2 := 6) (by exact rfl) ?_ (by omega) (by omega)
  refine jT_xaload_n (v := (4, 2)) (pcN := 1180) jI_379_1179 rfl rfl rfl ?_
  refine jT_fR [0, 2, 4, 5, 6, 7, 8, 9, 10, 11, 12, 13, 14] 30 (y := 337) (pcN := 1183) (dC := 2) (bc1 := 1) (bc2 := 6) (c1 := 0) (c2 := 0) (as := [(4, 0), (0, x1), (0, x2), (4, 2)]) (asC := [(4, 0), (0, x1), (0, x2), (4, 1)]) (LN := [(5, (0, 0)), (4, (4, 3)), (3, (4, 2)), (2, (4, 1)), (1, (4, 0)), (0, (6, 0))]) (stN := []) (hsC := jpA_15) (v := (0, 1)) (st2 := [(0, 1)]) (jA_337_436 (d := 0) (by omega) (by omega)) (by rfl) (by rfl) (by decide +kernel) (by rfl) (by rfl) (by omega) (by omega) (by omega) (by omega) rfl ?_
  refine jT_xistore (v := (0, 1)) (LN := [(6, (0, 1)), (5, (0, 0)), (4, (4, 3)), (3, (4, 2)), (2, (4, 1)), (1, (4, 0)), (0, (6, 0))]) (pcN := 1185) jI_379_1183 rfl rfl rfl rfl ?_
  refine jT_xaload_n (v := (4, 1)) (pcN := 1186) jI_379_1185 rfl rfl rfl ?_
  refine jT_xaload_n (v := (6, 0)) (pcN := 1187) jI_379_1186 rfl rfl rfl ?_
  refine jT_xiload (v := (0, 0)) (pcN := 1189) jI_379_1187 rfl rfl rfl ?_
  refine jT_xiconst (k := 1) (pcN := 1190) jI_379_1189 rfl ?_
  refine jT_xiadd (x := 0) (y := 1) (z := 1) (pcN := 1191) jI_379_1190 rfl (by decide) rfl ?_
  refine jT_adv 1 (pcN := 1192) (LN := [(6, (0, 1)), (5, (0, 0)), (4, (4, 3)), (3, (4, 2)), (2, (4, 1)), (1, (4, 0)), (0, (6, 0))]) (stN := [(0, x1), (4, 1)]) (hsN := jpA_267) (c1 := 0) (s1 := 0) (c2 := 0) (s2 := 0) (by exact rfl) ?_ (by omega) (by omega)
  refine jT_xaload_n (v := (6, 0)) (pcN := 1193) jI_379_1192 rfl rfl rfl ?_
  refine jT_xiload (v := (0, 0)) (pcN := 1195) jI_379_1193 rfl rfl rfl ?_
  refine jT_xiconst (k := 2) (pcN := 1196) jI_379_1195 rfl ?_
  refine jT_xiadd (x := 0) (y := 2) (z := 2) (pcN := 1197) jI_379_1196 rfl (by decide) rfl ?_
  refine jT_adv 1 (pcN := 1198) (LN := [(6, (0, 1)), (5, (0, 0)), (4, (4, 3)), (3, (4, 2)), (2, (4, 1)), (1, (4, 0)), (0, (6, 0))]) (stN := [(0, x2), (0, x1), (4, 1)]) (hsN := jpA_267) (c1 := 0) (s1 := 0) (c2 := 0) (s2 := 0) (by exact rfl) ?_ (by omega) (by omega)
  refine jT_fB [1, 15, 16, 17, 18, 19, 20, 21, 22, 23, 24, 25, 26, 27, 28, 29] 30 (y := 246) (pcN := 1201) (dC := 2) (bc1 := 0) (bc2 := 0) (c1 := 0) (c2 := 0) (as := [(4, 1), (0, x1), (0, x2)]) (asC := [(4, 0), (0, x1), (0, x2)]) (LN := [(6, (0, 1)), (5, (0, 0)), (4, (4, 3)), (3, (4, 2)), (2, (4, 1)), (1, (4, 0)), (0, (6, 0))]) (stN := []) (hsC := jpA_22) (hsD := jpA_20) (v := (0, 0)) (st2 := [(0, 0)]) (hs2 := jpA_306) (jA_246_437 (d := 0) (by omega) (by omega)) (by rfl) (by rfl) (by decide +kernel) (by rfl) (by rfl) (by omega) (by omega) (by omega) (by omega) rfl (by decide +kernel) ?_
  refine jT_xistore (v := (0, 0)) (LN := [(7, (0, 0)), (6, (0, 1)), (5, (0, 0)), (4, (4, 3)), (3, (4, 2)), (2, (4, 1)), (1, (4, 0)), (0, (6, 0))]) (pcN := 1203) jI_379_1201 rfl rfl rfl rfl ?_
  refine jT_xaload_n (v := (4, 1)) (pcN := 1204) jI_379_1203 rfl rfl rfl ?_
  refine jT_fR [1, 15, 16, 17, 18, 19, 20, 21, 22, 23, 24, 25, 26, 27, 28, 29] 30 (y := 186) (pcN := 1207) (dC := 0) (bc1 := 0) (bc2 := 0) (c1 := 0) (c2 := 0) (as := [(4, 1)]) (asC := [(4, 0)]) (LN := [(7, (0, 0)), (6, (0, 1)), (5, (0, 0)), (4, (4, 3)), (3, (4, 2)), (2, (4, 1)), (1, (4, 0)), (0, (6, 0))]) (stN := []) (hsC := jpA_20) (v := (0, 1)) (st2 := [(0, 1)]) (jA_186_8 (d := 0)) (by rfl) (by rfl) (by decide +kernel) (by rfl) (by rfl) (by omega) (by omega) (by omega) (by omega) rfl ?_
  refine jT_xiload (v := (0, 1)) (pcN := 1209) jI_379_1207 rfl rfl rfl ?_
  refine jT_xicT (pcN := 1214) jI_379_1209 rfl (by decide +kernel) rfl ?_
  refine jT_xiload (v := (0, 1)) (pcN := 1216) jI_379_1214 rfl rfl rfl ?_
  refine jT_xifT (pcN := 1231) jI_379_1216 rfl (by decide +kernel) rfl ?_
  refine jT_xgoto (pcN := 3740) jI_379_1231 rfl ?_
  refine jT_xiinc (x := 0) (z := 5) (LN := [(5, (0, 5)), (7, (0, 0)), (6, (0, 1)), (4, (4, 3)), (3, (4, 2)), (2, (4, 1)), (1, (4, 0)), (0, (6, 0))]) (pcN := 3743) jI_379_3740 rfl rfl (by decide) rfl rfl ?_
  refine jT_xgoto (pcN := 28) jI_379_3743 rfl ?_
  refine jT_xiload (v := (0, 5)) (pcN := 30) jI_379_28 rfl rfl rfl ?_
  refine jT_xaload_n (v := (6, 0)) (pcN := 31) jI_379_30 rfl rfl rfl ?_
  refine jT_adv 1 (pcN := 32) (LN := [(5, (0, 5)), (7, (0, 0)), (6, (0, 1)), (4, (4, 3)), (3, (4, 2)), (2, (4, 1)), (1, (4, 0)), (0, (6, 0))]) (stN := [(0, 5), (0, 5)]) (hsN := jpA_306) (c1 := 0) (s1 := 0) (c2 := 0) (s2 := 0) (by exact rfl) ?_ (by omega) (by omega)
  refine jT_xiconst (k := 5) (pcN := 33) jI_379_32 rfl ?_
  refine jT_xisub (x := 5) (y := 5) (z := 0) (pcN := 34) jI_379_33 rfl (by decide) rfl ?_
  refine jT_xicT (pcN := 3746) jI_379_34 rfl (by decide +kernel) rfl ?_
  refine jT_xiconst (k := 1) (pcN := 3747) jI_379_3746 rfl ?_
  exact jT_ret rfl (by decide) (by show 30 ≤ 30; decide) (by omega) (by omega) ⟨rfl, rfl⟩
def jpA_1911 : List JC := [jzA_265, jzA_266, jgh, jgh, jgh, jgh, jgh, jgh, jgh, jgh, jgh, jgh, jgh, jgh, jzA_322, (100, [], jS0), jgh, jgh, jgh, jgh, jgh, jgh, jgh, jgh, jgh, jgh, jgh, jgh, jgh, jgh, jgh, (117, [], [35, 36, 37, 38]), jgh, jgh, jgh, (7, [(4, 39), (4, (-1)), (4, (-1))], []), jgh, jgh, jgh, (114, [], [40]), jgh]
def jpA_1912 : List JC := [jzA_265, jzA_305, jgh, jgh, jgh, jgh, jgh, jgh, jgh, jgh, jgh, jgh, jgh, jgh, jzA_322, (100, [], jS0), jgh, jgh, jgh, jgh, jgh, jgh, jgh, jgh, jgh, jgh, jgh, jgh, jgh, jgh, jgh, (117, [], [35, 36, 37, 38]), jgh, jgh, jgh, (7, [(4, 39), (4, (-1)), (4, (-1))], []), jgh, jgh, jgh, (114, [], [40]), jgh]
set_option maxRecDepth 100000 in
theorem jL_11_1 {d : Nat} {x0 x1 x2 x3 x4 : Int} (h_x0 : (-2147483648) ≤ x0 ∧ x0 ≤ 2147483647) (h_x1 : 0 ≤ x1 ∧ x1 ≤ 0) (h_x2 : (-2147483648) ≤ x2 ∧ x2 ≤ (-1)) (h_x3 : (-2147483648) ≤ x3 ∧ x3 ≤ 2147483647) (h_x4 : (-2147483648) ≤ x4 ∧ x4 ≤ 2147483647) : jT [x0, x1, x2, x3, x4] (d + 3) 379 41 1166 [(5, (0, 0)), (4, (4, 3)), (3, (4, 2)), (2, (4, 1)), (1, (4, 0)), (0, (6, 0))] [] jpA_1911 1 6 (fun k v hsN => k = 0 ∧ v = (0, 1)) := by
  refine jT_xaload_n (v := (4, 0)) (pcN := 1167) jI_379_1166 rfl rfl rfl ?_
  refine jT_xaload_n (v := (6, 0)) (pcN := 1168) jI_379_1167 rfl rfl rfl ?_
  refine jT_xiload (v := (0, 0)) (pcN := 1170) jI_379_1168 rfl rfl rfl ?_
  refine jT_xiconst (k := 1) (pcN := 1171) jI_379_1170 rfl ?_
  refine jT_xiadd (x := 0) (y := 1) (z := 1) (pcN := 1172) jI_379_1171 rfl (by decide) rfl ?_
  refine jT_adv 1 (pcN := 1173) (LN := [(5, (0, 0)), (4, (4, 3)), (3, (4, 2)), (2, (4, 1)), (1, (4, 0)), (0, (6, 0))]) (stN := [(0, x1), (4, 0)]) (hsN := jpA_1911) (c1 := 0) (s1 := 0) (c2 := 1) (s2 := 6) (by exact rfl) ?_ (by omega) (by omega)
  refine jT_eq (LN := [(5, (0, 0)), (4, (4, 3)), (3, (4, 2)), (2, (4, 1)), (1, (4, 0)), (0, (6, 0))]) (stN := [(0, 0), (4, 0)]) (hsN := [jzA_265, jzA_266, jgh, jgh, jgh, jgh, jgh, jgh, jgh, jgh, jgh, jgh, jgh, jgh, jzA_322, (100, [], jS0), jgh, jgh, jgh, jgh, jgh, jgh, jgh, jgh, jgh, jgh, jgh, jgh, jgh, jgh, jgh, (117, [], [35, 36, 37, 38]), jgh, jgh, jgh, (7, [(4, 39), (4, (-1)), (4, (-1))], []), jgh, jgh, jgh, (114, [], [40]), jgh]) (rfl) (by simp only [List.cons.injEq, Prod.mk.injEq, and_true, true_and] <;> ((try unfold jw); (try unfold jwl); omega)) (rfl) ?_
  refine jT_xaload_n (v := (6, 0)) (pcN := 1174) jI_379_1173 rfl rfl rfl ?_
  refine jT_xiload (v := (0, 0)) (pcN := 1176) jI_379_1174 rfl rfl rfl ?_
  refine jT_xiconst (k := 2) (pcN := 1177) jI_379_1176 rfl ?_
  refine jT_xiadd (x := 0) (y := 2) (z := 2) (pcN := 1178) jI_379_1177 rfl (by decide) rfl ?_
  refine jT_adv 1 (pcN := 1179) (LN := [(5, (0, 0)), (4, (4, 3)), (3, (4, 2)), (2, (4, 1)), (1, (4, 0)), (0, (6, 0))]) (stN := [(0, x2), (0, 0), (4, 0)]) (hsN := jpA_1911) (c1 := 0) (s1 := 0) (c2 := 1) (s2 := 6) (by exact rfl) ?_ (by omega) (by omega)
  refine jT_xaload_n (v := (4, 2)) (pcN := 1180) jI_379_1179 rfl rfl rfl ?_
  refine jT_fR [0, 2, 4, 5, 6, 7, 8, 9, 10, 11, 12, 13, 14, 30, 31, 32, 33, 34, 35, 36, 37, 38, 39, 40] 41 (y := 337) (pcN := 1183) (dC := 2) (bc1 := 1) (bc2 := 6) (c1 := 0) (c2 := 0) (as := [(4, 0), (0, 0), (0, x2), (4, 2)]) (asC := [(4, 0), (0, 0), (0, x2), (4, 1)]) (LN := [(5, (0, 0)), (4, (4, 3)), (3, (4, 2)), (2, (4, 1)), (1, (4, 0)), (0, (6, 0))]) (stN := []) (hsC := jpA_1806) (v := (0, 1)) (st2 := [(0, 1)]) (jA_337_440 (d := 0) (by omega)) (by rfl) (by rfl) (by decide +kernel) (by rfl) (by rfl) (by omega) (by omega) (by omega) (by omega) rfl ?_
  refine jT_xistore (v := (0, 1)) (LN := [(6, (0, 1)), (5, (0, 0)), (4, (4, 3)), (3, (4, 2)), (2, (4, 1)), (1, (4, 0)), (0, (6, 0))]) (pcN := 1185) jI_379_1183 rfl rfl rfl rfl ?_
  refine jT_xaload_n (v := (4, 1)) (pcN := 1186) jI_379_1185 rfl rfl rfl ?_
  refine jT_xaload_n (v := (6, 0)) (pcN := 1187) jI_379_1186 rfl rfl rfl ?_
  refine jT_xiload (v := (0, 0)) (pcN := 1189) jI_379_1187 rfl rfl rfl ?_
  refine jT_xiconst (k := 1) (pcN := 1190) jI_379_1189 rfl ?_
  refine jT_xiadd (x := 0) (y := 1) (z := 1) (pcN := 1191) jI_379_1190 rfl (by decide) rfl ?_
  refine jT_adv 1 (pcN := 1192) (LN := [(6, (0, 1)), (5, (0, 0)), (4, (4, 3)), (3, (4, 2)), (2, (4, 1)), (1, (4, 0)), (0, (6, 0))]) (stN := [(0, x1), (4, 1)]) (hsN := jpA_1911) (c1 := 0) (s1 := 0) (c2 := 0) (s2 := 0) (by exact rfl) ?_ (by omega) (by omega)
  refine jT_eq (LN := [(6, (0, 1)), (5, (0, 0)), (4, (4, 3)), (3, (4, 2)), (2, (4, 1)), (1, (4, 0)), (0, (6, 0))]) (stN := [(0, 0), (4, 1)]) (hsN := [jzA_265, jzA_266, jgh, jgh, jgh, jgh, jgh, jgh, jgh, jgh, jgh, jgh, jgh, jgh, jzA_322, (100, [], jS0), jgh, jgh, jgh, jgh, jgh, jgh, jgh, jgh, jgh, jgh, jgh, jgh, jgh, jgh, jgh, (117, [], [35, 36, 37, 38]), jgh, jgh, jgh, (7, [(4, 39), (4, (-1)), (4, (-1))], []), jgh, jgh, jgh, (114, [], [40]), jgh]) (rfl) (by simp only [List.cons.injEq, Prod.mk.injEq, and_true, true_and] <;> ((try unfold jw); (try unfold jwl); omega)) (rfl) ?_
  refine jT_xaload_n (v := (6, 0)) (pcN := 1193) jI_379_1192 rfl rfl rfl ?_
  refine jT_xiload (v := (0, 0)) (pcN := 1195) jI_379_1193 rfl rfl rfl ?_
  refine jT_xiconst (k := 2) (pcN := 1196) jI_379_1195 rfl ?_
  refine jT_xiadd (x := 0) (y := 2) (z := 2) (pcN := 1197) jI_379_1196 rfl (by decide) rfl ?_
  refine jT_adv 1 (pcN := 1198) (LN := [(6, (0, 1)), (5, (0, 0)), (4, (4, 3)), (3, (4, 2)), (2, (4, 1)), (1, (4, 0)), (0, (6, 0))]) (stN := [(0, x2), (0, 0), (4, 1)]) (hsN := jpA_1911) (c1 := 0) (s1 := 0) (c2 := 0) (s2 := 0) (by exact rfl) ?_ (by omega) (by omega)
  refine jT_fB [1, 15, 16, 17, 18, 19, 20, 21, 22, 23, 24, 25, 26, 27, 28, 29] 41 (y := 246) (pcN := 1201) (dC := 2) (bc1 := 0) (bc2 := 0) (c1 := 0) (c2 := 0) (as := [(4, 1), (0, 0), (0, x2)]) (asC := [(4, 0), (0, 0), (0, x2)]) (LN := [(6, (0, 1)), (5, (0, 0)), (4, (4, 3)), (3, (4, 2)), (2, (4, 1)), (1, (4, 0)), (0, (6, 0))]) (stN := []) (hsC := jpA_1519) (hsD := jpA_1820) (v := (0, 0)) (st2 := [(0, 0)]) (hs2 := jpA_1912) (jA_246_442 (d := 0) (by omega)) (by rfl) (by rfl) (by decide +kernel) (by rfl) (by rfl) (by omega) (by omega) (by omega) (by omega) rfl (by decide +kernel) ?_
  refine jT_xistore (v := (0, 0)) (LN := [(7, (0, 0)), (6, (0, 1)), (5, (0, 0)), (4, (4, 3)), (3, (4, 2)), (2, (4, 1)), (1, (4, 0)), (0, (6, 0))]) (pcN := 1203) jI_379_1201 rfl rfl rfl rfl ?_
  refine jT_xaload_n (v := (4, 1)) (pcN := 1204) jI_379_1203 rfl rfl rfl ?_
  refine jT_fR [1, 15, 16, 17, 18, 19, 20, 21, 22, 23, 24, 25, 26, 27, 28, 29] 41 (y := 186) (pcN := 1207) (dC := 0) (bc1 := 0) (bc2 := 0) (c1 := 0) (c2 := 0) (as := [(4, 1)]) (asC := [(4, 0)]) (LN := [(7, (0, 0)), (6, (0, 1)), (5, (0, 0)), (4, (4, 3)), (3, (4, 2)), (2, (4, 1)), (1, (4, 0)), (0, (6, 0))]) (stN := []) (hsC := jpA_20) (v := (0, 1)) (st2 := [(0, 1)]) (jA_186_8 (d := 0)) (by rfl) (by rfl) (by decide +kernel) (by rfl) (by rfl) (by omega) (by omega) (by omega) (by omega) rfl ?_
  refine jT_xiload (v := (0, 1)) (pcN := 1209) jI_379_1207 rfl rfl rfl ?_
  refine jT_xicT (pcN := 1214) jI_379_1209 rfl (by decide +kernel) rfl ?_
  refine jT_xiload (v := (0, 1)) (pcN := 1216) jI_379_1214 rfl rfl rfl ?_
  refine jT_xifT (pcN := 1231) jI_379_1216 rfl (by decide +kernel) rfl ?_
  refine jT_xgoto (pcN := 3740) jI_379_1231 rfl ?_
  refine jT_xiinc (x := 0) (z := 5) (LN := [(5, (0, 5)), (7, (0, 0)), (6, (0, 1)), (4, (4, 3)), (3, (4, 2)), (2, (4, 1)), (1, (4, 0)), (0, (6, 0))]) (pcN := 3743) jI_379_3740 rfl rfl (by decide) rfl rfl ?_
  refine jT_xgoto (pcN := 28) jI_379_3743 rfl ?_
  refine jT_xiload (v := (0, 5)) (pcN := 30) jI_379_28 rfl rfl rfl ?_
  refine jT_xaload_n (v := (6, 0)) (pcN := 31) jI_379_30 rfl rfl rfl ?_
  refine jT_adv 1 (pcN := 32) (LN := [(5, (0, 5)), (7, (0, 0)), (6, (0, 1)), (4, (4, 3)), (3, (4, 2)), (2, (4, 1)), (1, (4, 0)), (0, (6, 0))]) (stN := [(0, 5), (0, 5)]) (hsN := jpA_1912) (c1 := 0) (s1 := 0) (c2 := 0) (s2 := 0) (by exact rfl) ?_ (by omega) (by omega)
  refine jT_xiconst (k := 5) (pcN := 33) jI_379_32 rfl ?_
  refine jT_xisub (x := 5) (y := 5) (z := 0) (pcN := 34) jI_379_33 rfl (by decide) rfl ?_
  refine jT_xicT (pcN := 3746) jI_379_34 rfl (by decide +kernel) rfl ?_
  refine jT_xiconst (k := 1) (pcN := 3747) jI_379_3746 rfl ?_
  exact jT_ret rfl (by decide) (by show 41 ≤ 41; decide) (by omega) (by omega) ⟨rfl, rfl⟩
def jpA_1913 : List JC := [jzA_265, jzA_266, (101, [], [0]), jgh, jgh, jgh, jgh, jgh, jgh, jgh, jgh, jgh, jgh, jzA_79, jzA_322, (100, [], jS0), (100, [], []), jzA_323, jzA_197, jgh, jgh, (101, [], [0, 0, 0, 0, 0, 0]), (100, [], (List.replicate 1792 0)), jgh, jgh, jgh, jgh, jgh, jgh, jgh, jgh, (117, [], [43, 44, 45, 46]), jgh, jgh, jgh, (100, [], (List.replicate 1613 0)), jgh, jgh, jgh, jgh, jgh, jgh, jgh, (7, [(4, 47), (4, (-1)), (4, (-1))], []), jgh, jgh, jgh, (114, [], [48]), (4, [(4, 49), (1, 1)], []), (101, [], [0, 0, 0, 0, 0, 0])]
def jzA_1914 : JC := (9, [(4, 30), (4, 55), (4, 32), (4, 33), (4, 34)], [])
def jpA_1915 : List JC := [jzA_725, jzA_266, (101, [], [1]), jgh, jgh, jgh, jgh, jgh, jgh, jgh, jgh, jgh, jgh, jzA_327, jzA_322, (100, [], jS0), (100, [], []), jzA_323, jzA_197, jgh, jgh, (101, [], [0, 0, 0, 0, 0, 0]), (100, [], (List.replicate 1792 0)), jgh, jgh, jgh, jgh, jgh, jgh, jgh, jgh, (117, [], [43, 44, 45, 46]), jgh, jgh, jgh, (100, [], (List.replicate 1613 0)), jgh, jgh, jgh, jgh, jgh, jgh, jgh, (7, [(4, 47), (4, (-1)), (4, (-1))], []), jgh, jgh, jgh, (114, [], [48]), (4, [(4, 49), (1, 1)], []), (101, [], [0, 0, 0, 0, 0, 0]), (114, [], [52]), (101, [], [0, 0, 0, 0, 0, 0]), (4, [(4, 51), (1, 1)], []), (114, [], [52]), (7, [(4, 53), (4, (-1)), (4, (-1))], []), (117, [], [54, 44, 45, 46]), jzA_1914]
def jpA_1916 : List JC := [jzA_725, jzA_1753, (101, [], [1]), jgh, jgh, jgh, jgh, jgh, jgh, jgh, jgh, jgh, jgh, jzA_327, jzA_322, jzA_1561, (100, [], []), jzA_323, jzA_331, jgh, jgh, (101, [], [0, 0, 0, 0, 0, 0]), jzA_1539, jgh, jgh, jgh, jgh, jgh, jgh, jgh, jgh, (117, [], [43, 44, 45, 46]), jgh, jgh, jgh, (100, [], jS0), jgh, jgh, jgh, jgh, jgh, jgh, jgh, (7, [(4, 47), (4, (-1)), (4, (-1))], []), jgh, jgh, jgh, (114, [], [48]), (4, [(4, 49), (1, 1)], []), (101, [], [0, 0, 0, 0, 0, 0]), (114, [], [52]), (101, [], [0, 0, 0, 0, 0, 0]), (4, [(4, 51), (1, 1)], []), (114, [], [52]), (7, [(4, 53), (4, (-1)), (4, (-1))], []), (117, [], [54, 44, 45, 46]), jzA_1914]
theorem jI_379_1219 : jmI (jm 379) 1219 = (.aload_n 3, 1) := by rfl
theorem jI_379_1220 : jmI (jm 379) 1220 = (.iconst 0, 1) := by rfl
theorem jI_379_1221 : jmI (jm 379) 1221 = (.laload, 1) := by rfl
theorem jI_379_1222 : jmI (jm 379) 1222 = (.iload 7, 2) := by rfl
theorem jI_379_1224 : jmI (jm 379) 1224 = (.i2l, 1) := by rfl
theorem jI_379_1226 : jmI (jm 379) 1226 = (.ifCond .eq 5, 3) := by rfl
set_option maxRecDepth 100000 in
theorem jL_11_2 {d : Nat} {x0 x1 x2 x3 x4 : Int} (h_x0 : (-2147483648) ≤ x0 ∧ x0 ≤ 2147483647) (h_x1 : 0 ≤ x1 ∧ x1 ≤ 0) (h_x2 : 0 ≤ x2 ∧ x2 ≤ 0) (h_x3 : (-2147483648) ≤ x3 ∧ x3 ≤ 2147483647) (h_x4 : (-2147483648) ≤ x4 ∧ x4 ≤ 2147483647) : jT [x0, x1, x2, x3, x4] (d + 6) 379 50 1166 [(5, (0, 0)), (4, (4, 3)), (3, (4, 2)), (2, (4, 1)), (1, (4, 0)), (0, (6, 0))] [] jpA_1913 7 22 (fun k v hsN => k = 0 ∧ v = (0, 1)) := by
  refine jT_xaload_n (v := (4, 0)) (pcN := 1167) jI_379_1166 rfl rfl rfl ?_
  refine jT_xaload_n (v := (6, 0)) (pcN := 1168) jI_379_1167 rfl rfl rfl ?_
  refine jT_xiload (v := (0, 0)) (pcN := 1170) jI_379_1168 rfl rfl rfl ?_
  refine jT_xiconst (k := 1) (pcN := 1171) jI_379_1170 rfl ?_
  refine jT_xiadd (x := 0) (y := 1) (z := 1) (pcN := 1172) jI_379_1171 rfl (by decide) rfl ?_
  refine jT_adv 1 (pcN := 1173) (LN := [(5, (0, 0)), (4, (4, 3)), (3, (4, 2)), (2, (4, 1)), (1, (4, 0)), (0, (6, 0))]) (stN := [(0, x1), (4, 0)]) (hsN := jpA_1913) (c1 := 0) (s1 := 0) (c2 := 7) (s2 := 22) (by exact rfl) ?_ (by omega) (by omega)
  refine jT_eq (LN := [(5, (0, 0)), (4, (4, 3)), (3, (4, 2)), (2, (4, 1)), (1, (4, 0)), (0, (6, 0))]) (stN := [(0, 0), (4, 0)]) (hsN := [jzA_265, jzA_266, (101, [], [0]), jgh, jgh, jgh, jgh, jgh, jgh, jgh, jgh, jgh, jgh, jzA_79, jzA_322, (100, [], jS0), (100, [], []), jzA_323, jzA_197, jgh, jgh, (101, [], [0, 0, 0, 0, 0, 0]), (100, [], (List.replicate 1792 0)), jgh, jgh, jgh, jgh, jgh, jgh, jgh, jgh, (117, [], [43, 44, 45, 46]), jgh, jgh, jgh, (100, [], (List.replicate 1613 0)), jgh, jgh, jgh, jgh, jgh, jgh, jgh, (7, [(4, 47), (4, (-1)), (4, (-1))], []), jgh, jgh, jgh, (114, [], [48]), (4, [(4, 49), (1, 1)], []), (101, [], [0, 0, 0, 0, 0, 0])]) (rfl) (by simp only [List.cons.injEq, Prod.mk.injEq, and_true, true_and] <;> ((try unfold jw); (try unfold jwl); omega)) (rfl) ?_
  refine jT_xaload_n (v := (6, 0)) (pcN := 1174) jI_379_1173 rfl rfl rfl ?_
  refine jT_xiload (v := (0, 0)) (pcN := 1176) jI_379_1174 rfl rfl rfl ?_
  refine jT_xiconst (k := 2) (pcN := 1177) jI_379_1176 rfl ?_
  refine jT_xiadd (x := 0) (y := 2) (z := 2) (pcN := 1178) jI_379_1177 rfl (by decide) rfl ?_
  refine jT_adv 1 (pcN := 1179) (LN := [(5, (0, 0)), (4, (4, 3)), (3, (4, 2)), (2, (4, 1)), (1, (4, 0)), (0, (6, 0))]) (stN := [(0, x2), (0, 0), (4, 0)]) (hsN := jpA_1913) (c1 := 0) (s1 := 0) (c2 := 7) (s2 := 22) (by exact rfl) ?_ (by omega) (by omega)
  refine jT_eq (LN := [(5, (0, 0)), (4, (4, 3)), (3, (4, 2)), (2, (4, 1)), (1, (4, 0)), (0, (6, 0))]) (stN := [(0, 0), (0, 0), (4, 0)]) (hsN := [jzA_265, jzA_266, (101, [], [0]), jgh, jgh, jgh, jgh, jgh, jgh, jgh, jgh, jgh, jgh, jzA_79, jzA_322, (100, [], jS0), (100, [], []), jzA_323, jzA_197, jgh, jgh, (101, [], [0, 0, 0, 0, 0, 0]), (100, [], (List.replicate 1792 0)), jgh, jgh, jgh, jgh, jgh, jgh, jgh, jgh, (117, [], [43, 44, 45, 46]), jgh, jgh, jgh, (100, [], (List.replicate 1613 0)), jgh, jgh, jgh, jgh, jgh, jgh, jgh, (7, [(4, 47), (4, (-1)), (4, (-1))], []), jgh, jgh, jgh, (114, [], [48]), (4, [(4, 49), (1, 1)], []), (101, [], [0, 0, 0, 0, 0, 0])]) (rfl) (by simp only [List.cons.injEq, Prod.mk.injEq, and_true, true_and] <;> ((try unfold jw); (try unfold jwl); omega)) (rfl) ?_
  refine jT_xaload_n (v := (4, 2)) (pcN := 1180) jI_379_1179 rfl rfl rfl ?_
  refine jT_fB [0, 2, 4, 5, 6, 7, 8, 9, 10, 11, 12, 13, 14, 30, 31, 32, 33, 34, 43, 44, 45, 46, 47, 48, 49] 50 (y := 337) (pcN := 1183) (dC := 5) (bc1 := 7) (bc2 := 22) (c1 := 0) (c2 := 0) (as := [(4, 0), (0, 0), (0, 0), (4, 2)]) (asC := [(4, 0), (0, 0), (0, 0), (4, 1)]) (LN := [(5, (0, 0)), (4, (4, 3)), (3, (4, 2)), (2, (4, 1)), (1, (4, 0)), (0, (6, 0))]) (stN := []) (hsC := jpA_1835) (hsD := jpA_1839) (v := (0, 0)) (st2 := [(0, 0)]) (hs2 := jpA_1915) (jA_337_447 (d := 0)) (by rfl) (by rfl) (by decide +kernel) (by rfl) (by rfl) (by omega) (by omega) (by omega) (by omega) rfl (by decide +kernel) ?_
  refine jT_xistore (v := (0, 0)) (LN := [(6, (0, 0)), (5, (0, 0)), (4, (4, 3)), (3, (4, 2)), (2, (4, 1)), (1, (4, 0)), (0, (6, 0))]) (pcN := 1185) jI_379_1183 rfl rfl rfl rfl ?_
  refine jT_xaload_n (v := (4, 1)) (pcN := 1186) jI_379_1185 rfl rfl rfl ?_
  refine jT_xaload_n (v := (6, 0)) (pcN := 1187) jI_379_1186 rfl rfl rfl ?_
  refine jT_xiload (v := (0, 0)) (pcN := 1189) jI_379_1187 rfl rfl rfl ?_
  refine jT_xiconst (k := 1) (pcN := 1190) jI_379_1189 rfl ?_
  refine jT_xiadd (x := 0) (y := 1) (z := 1) (pcN := 1191) jI_379_1190 rfl (by decide) rfl ?_
  refine jT_adv 1 (pcN := 1192) (LN := [(6, (0, 0)), (5, (0, 0)), (4, (4, 3)), (3, (4, 2)), (2, (4, 1)), (1, (4, 0)), (0, (6, 0))]) (stN := [(0, x1), (4, 1)]) (hsN := jpA_1915) (c1 := 0) (s1 := 0) (c2 := 0) (s2 := 0) (by exact rfl) ?_ (by omega) (by omega)
  refine jT_eq (LN := [(6, (0, 0)), (5, (0, 0)), (4, (4, 3)), (3, (4, 2)), (2, (4, 1)), (1, (4, 0)), (0, (6, 0))]) (stN := [(0, 0), (4, 1)]) (hsN := [jzA_725, jzA_266, (101, [], [1]), jgh, jgh, jgh, jgh, jgh, jgh, jgh, jgh, jgh, jgh, jzA_327, jzA_322, (100, [], jS0), (100, [], []), jzA_323, jzA_197, jgh, jgh, (101, [], [0, 0, 0, 0, 0, 0]), (100, [], (List.replicate 1792 0)), jgh, jgh, jgh, jgh, jgh, jgh, jgh, jgh, (117, [], [43, 44, 45, 46]), jgh, jgh, jgh, (100, [], (List.replicate 1613 0)), jgh, jgh, jgh, jgh, jgh, jgh, jgh, (7, [(4, 47), (4, (-1)), (4, (-1))], []), jgh, jgh, jgh, (114, [], [48]), (4, [(4, 49), (1, 1)], []), (101, [], [0, 0, 0, 0, 0, 0]), (114, [], [52]), (101, [], [0, 0, 0, 0, 0, 0]), (4, [(4, 51), (1, 1)], []), (114, [], [52]), (7, [(4, 53), (4, (-1)), (4, (-1))], []), (117, [], [54, 44, 45, 46]), jzA_1914]) (rfl) (by simp only [List.cons.injEq, Prod.mk.injEq, and_true, true_and] <;> ((try unfold jw); (try unfold jwl); omega)) (rfl) ?_
  refine jT_xaload_n (v := (6, 0)) (pcN := 1193) jI_379_1192 rfl rfl rfl ?_
  refine jT_xiload (v := (0, 0)) (pcN := 1195) jI_379_1193 rfl rfl rfl ?_
  refine jT_xiconst (k := 2) (pcN := 1196) jI_379_1195 rfl ?_
  refine jT_xiadd (x := 0) (y := 2) (z := 2) (pcN := 1197) jI_379_1196 rfl (by decide) rfl ?_
  refine jT_adv 1 (pcN := 1198) (LN := [(6, (0, 0)), (5, (0, 0)), (4, (4, 3)), (3, (4, 2)), (2, (4, 1)), (1, (4, 0)), (0, (6, 0))]) (stN := [(0, x2), (0, 0), (4, 1)]) (hsN := jpA_1915) (c1 := 0) (s1 := 0) (c2 := 0) (s2 := 0) (by exact rfl) ?_ (by omega) (by omega)
  refine jT_eq (LN := [(6, (0, 0)), (5, (0, 0)), (4, (4, 3)), (3, (4, 2)), (2, (4, 1)), (1, (4, 0)), (0, (6, 0))]) (stN := [(0, 0), (0, 0), (4, 1)]) (hsN := [jzA_725, jzA_266, (101, [], [1]), jgh, jgh, jgh, jgh, jgh, jgh, jgh, jgh, jgh, jgh, jzA_327, jzA_322, (100, [], jS0), (100, [], []), jzA_323, jzA_197, jgh, jgh, (101, [], [0, 0, 0, 0, 0, 0]), (100, [], (List.replicate 1792 0)), jgh, jgh, jgh, jgh, jgh, jgh, jgh, jgh, (117, [], [43, 44, 45, 46]), jgh, jgh, jgh, (100, [], (List.replicate 1613 0)), jgh, jgh, jgh, jgh, jgh, jgh, jgh, (7, [(4, 47), (4, (-1)), (4, (-1))], []), jgh, jgh, jgh, (114, [], [48]), (4, [(4, 49), (1, 1)], []), (101, [], [0, 0, 0, 0, 0, 0]), (114, [], [52]), (101, [], [0, 0, 0, 0, 0, 0]), (4, [(4, 51), (1, 1)], []), (114, [], [52]), (7, [(4, 53), (4, (-1)), (4, (-1))], []), (117, [], [54, 44, 45, 46]), jzA_1914]) (rfl) (by simp only [List.cons.injEq, Prod.mk.injEq, and_true, true_and] <;> ((try unfold jw); (try unfold jwl); omega)) (rfl) ?_
  refine jT_fB [1, 15, 16, 17, 18, 19, 20, 21, 22, 23, 24, 25, 26, 27, 28, 29, 35, 36, 37, 38, 39, 40, 41, 42] 57 (y := 246) (pcN := 1201) (dC := 4) (bc1 := 0) (bc2 := 0) (c1 := 0) (c2 := 0) (as := [(4, 1), (0, 0), (0, 0)]) (asC := [(4, 0), (0, 0), (0, 0)]) (LN := [(6, (0, 0)), (5, (0, 0)), (4, (4, 3)), (3, (4, 2)), (2, (4, 1)), (1, (4, 0)), (0, (6, 0))]) (stN := []) (hsC := jpA_1842) (hsD := jpA_1844) (v := (0, 1)) (st2 := [(0, 1)]) (hs2 := jpA_1916) (jA_246_452 (d := 0)) (by rfl) (by rfl) (by decide +kernel) (by rfl) (by rfl) (by omega) (by omega) (by omega) (by omega) rfl (by decide +kernel) ?_
  refine jT_xistore (v := (0, 1)) (LN := [(7, (0, 1)), (6, (0, 0)), (5, (0, 0)), (4, (4, 3)), (3, (4, 2)), (2, (4, 1)), (1, (4, 0)), (0, (6, 0))]) (pcN := 1203) jI_379_1201 rfl rfl rfl rfl ?_
  refine jT_xaload_n (v := (4, 1)) (pcN := 1204) jI_379_1203 rfl rfl rfl ?_
  refine jT_fR [1, 15, 16, 17, 18, 19, 20, 21, 22, 23, 24, 25, 26, 27, 28, 29] 57 (y := 186) (pcN := 1207) (dC := 0) (bc1 := 0) (bc2 := 0) (c1 := 0) (c2 := 0) (as := [(4, 1)]) (asC := [(4, 0)]) (LN := [(7, (0, 1)), (6, (0, 0)), (5, (0, 0)), (4, (4, 3)), (3, (4, 2)), (2, (4, 1)), (1, (4, 0)), (0, (6, 0))]) (stN := []) (hsC := jpA_1633) (v := (0, 0)) (st2 := [(0, 0)]) (jA_186_355 (d := 0)) (by rfl) (by rfl) (by decide +kernel) (by rfl) (by rfl) (by omega) (by omega) (by omega) (by omega) rfl ?_
  refine jT_xiload (v := (0, 0)) (pcN := 1209) jI_379_1207 rfl rfl rfl ?_
  refine jT_xicT (pcN := 1214) jI_379_1209 rfl (by decide +kernel) rfl ?_
  refine jT_xiload (v := (0, 0)) (pcN := 1216) jI_379_1214 rfl rfl rfl ?_
  refine jT_xifF (t := 1231) (pcN := 1219) jI_379_1216 rfl (by decide +kernel) rfl rfl ?_
  refine jT_xaload_n (v := (4, 2)) (pcN := 1220) jI_379_1219 rfl rfl rfl ?_
  refine jT_xiconst (k := 0) (pcN := 1221) jI_379_1220 rfl ?_
  refine jT_lald (x := 1) (a := 2) (j := 0) (fs := []) (X := [1]) jI_379_1221 rfl rfl rfl rfl ?_
  refine jT_eq (LN := [(7, (0, 1)), (6, (0, 0)), (5, (0, 0)), (4, (4, 3)), (3, (4, 2)), (2, (4, 1)), (1, (4, 0)), (0, (6, 0))]) (stN := [(1, 1)]) (hsN := jpA_1916) rfl rfl rfl ?_
  refine jT_xiload (v := (0, 1)) (pcN := 1224) jI_379_1222 rfl rfl rfl ?_
  refine jT_xi2l (x := 1) (z := 1) (pcN := 1225) jI_379_1224 rfl (by decide +kernel) rfl ?_
  refine jT_lcmp (a := 1) (b := 1) (z := 0) (by rfl) (by rfl) (by decide +kernel) (by decide +kernel) (by decide) ?_
  refine jT_xifT (pcN := 1231) jI_379_1226 rfl (by decide +kernel) rfl ?_
  refine jT_xgoto (pcN := 3740) jI_379_1231 rfl ?_
  refine jT_xiinc (x := 0) (z := 5) (LN := [(5, (0, 5)), (7, (0, 1)), (6, (0, 0)), (4, (4, 3)), (3, (4, 2)), (2, (4, 1)), (1, (4, 0)), (0, (6, 0))]) (pcN := 3743) jI_379_3740 rfl rfl (by decide) rfl rfl ?_
  refine jT_xgoto (pcN := 28) jI_379_3743 rfl ?_
  refine jT_xiload (v := (0, 5)) (pcN := 30) jI_379_28 rfl rfl rfl ?_
  refine jT_xaload_n (v := (6, 0)) (pcN := 31) jI_379_30 rfl rfl rfl ?_
  refine jT_adv 1 (pcN := 32) (LN := [(5, (0, 5)), (7, (0, 1)), (6, (0, 0)), (4, (4, 3)), (3, (4, 2)), (2, (4, 1)), (1, (4, 0)), (0, (6, 0))]) (stN := [(0, 5), (0, 5)]) (hsN := jpA_1916) (c1 := 0) (s1 := 0) (c2 := 0) (s2 := 0) (by exact rfl) ?_ (by omega) (by omega)
  refine jT_xiconst (k := 5) (pcN := 33) jI_379_32 rfl ?_
  refine jT_xisub (x := 5) (y := 5) (z := 0) (pcN := 34) jI_379_33 rfl (by decide) rfl ?_
  refine jT_xicT (pcN := 3746) jI_379_34 rfl (by decide +kernel) rfl ?_
  refine jT_xiconst (k := 1) (pcN := 3747) jI_379_3746 rfl ?_
  exact jT_ret rfl (by decide) (by show 50 ≤ 57; decide) (by omega) (by omega) ⟨rfl, rfl⟩
set_option maxRecDepth 100000 in
theorem jL_11_3 {d : Nat} {x0 x1 x2 x3 x4 : Int} (h_x0 : (-2147483648) ≤ x0 ∧ x0 ≤ 2147483647) (h_x1 : 0 ≤ x1 ∧ x1 ≤ 0) (h_x2 : 1 ≤ x2 ∧ x2 ≤ 2147483647) (h_x3 : (-2147483648) ≤ x3 ∧ x3 ≤ 2147483647) (h_x4 : (-2147483648) ≤ x4 ∧ x4 ≤ 2147483647) : jT [x0, x1, x2, x3, x4] (d + 3) 379 41 1166 [(5, (0, 0)), (4, (4, 3)), (3, (4, 2)), (2, (4, 1)), (1, (4, 0)), (0, (6, 0))] [] jpA_1911 1 6 (fun k v hsN => k = 0 ∧ v = (0, 1)) := by
  refine jT_xaload_n (v := (4, 0)) (pcN := 1167) jI_379_1166 rfl rfl rfl ?_
  refine jT_xaload_n (v := (6, 0)) (pcN := 1168) jI_379_1167 rfl rfl rfl ?_
  refine jT_xiload (v := (0, 0)) (pcN := 1170) jI_379_1168 rfl rfl rfl ?_
  refine jT_xiconst (k := 1) (pcN := 1171) jI_379_1170 rfl ?_
  refine jT_xiadd (x := 0) (y := 1) (z := 1) (pcN := 1172) jI_379_1171 rfl (by decide) rfl ?_
  refine jT_adv 1 (pcN := 1173) (LN := [(5, (0, 0)), (4, (4, 3)), (3, (4, 2)), (2, (4, 1)), (1, (4, 0)), (0, (6, 0))]) (stN := [(0, x1), (4, 0)]) (hsN := jpA_1911) (c1 := 0) (s1 := 0) (c2 := 1) (s2 := 6) (by exact rfl) ?_ (by omega) (by omega)
  refine jT_eq (LN := [(5, (0, 0)), (4, (4, 3)), (3, (4, 2)), (2, (4, 1)), (1, (4, 0)), (0, (6, 0))]) (stN := [(0, 0), (4, 0)]) (hsN := [jzA_265, jzA_266, jgh, jgh, jgh, jgh, jgh, jgh, jgh, jgh, jgh, jgh, jgh, jgh, jzA_322, (100, [], jS0), jgh, jgh, jgh, jgh, jgh, jgh, jgh, jgh, jgh, jgh, jgh, jgh, jgh, jgh, jgh, (117, [], [35, 36, 37, 38]), jgh, jgh, jgh, (7, [(4, 39), (4, (-1)), (4, (-1))], []), jgh, jgh, jgh, (114, [], [40]), jgh]) (rfl) (by simp only [List.cons.injEq, Prod.mk.injEq, and_true, true_and] <;> ((try unfold jw); (try unfold jwl); omega)) (rfl) ?_
  refine jT_xaload_n (v := (6, 0)) (pcN := 1174) jI_379_1173 rfl rfl rfl ?_
  refine jT_xiload (v := (0, 0)) (pcN := 1176) jI_379_1174 rfl rfl rfl ?_
  refine jT_xiconst (k := 2) (pcN := 1177) jI_379_1176 rfl ?_
  refine jT_xiadd (x := 0) (y := 2) (z := 2) (pcN := 1178) jI_379_1177 rfl (by decide) rfl ?_
  refine jT_adv 1 (pcN := 1179) (LN := [(5, (0, 0)), (4, (4, 3)), (3, (4, 2)), (2, (4, 1)), (1, (4, 0)), (0, (6, 0))]) (stN := [(0, x2), (0, 0), (4, 0)]) (hsN := jpA_1911) (c1 := 0) (s1 := 0) (c2 := 1) (s2 := 6) (by exact rfl) ?_ (by omega) (by omega)
  refine jT_xaload_n (v := (4, 2)) (pcN := 1180) jI_379_1179 rfl rfl rfl ?_
  refine jT_fR [0, 2, 4, 5, 6, 7, 8, 9, 10, 11, 12, 13, 14, 30, 31, 32, 33, 34, 35, 36, 37, 38, 39, 40] 41 (y := 337) (pcN := 1183) (dC := 2) (bc1 := 1) (bc2 := 6) (c1 := 0) (c2 := 0) (as := [(4, 0), (0, 0), (0, x2), (4, 2)]) (asC := [(4, 0), (0, 0), (0, x2), (4, 1)]) (LN := [(5, (0, 0)), (4, (4, 3)), (3, (4, 2)), (2, (4, 1)), (1, (4, 0)), (0, (6, 0))]) (stN := []) (hsC := jpA_1806) (v := (0, 1)) (st2 := [(0, 1)]) (jA_337_455 (d := 0) (by omega)) (by rfl) (by rfl) (by decide +kernel) (by rfl) (by rfl) (by omega) (by omega) (by omega) (by omega) rfl ?_
  refine jT_xistore (v := (0, 1)) (LN := [(6, (0, 1)), (5, (0, 0)), (4, (4, 3)), (3, (4, 2)), (2, (4, 1)), (1, (4, 0)), (0, (6, 0))]) (pcN := 1185) jI_379_1183 rfl rfl rfl rfl ?_
  refine jT_xaload_n (v := (4, 1)) (pcN := 1186) jI_379_1185 rfl rfl rfl ?_
  refine jT_xaload_n (v := (6, 0)) (pcN := 1187) jI_379_1186 rfl rfl rfl ?_
  refine jT_xiload (v := (0, 0)) (pcN := 1189) jI_379_1187 rfl rfl rfl ?_
  refine jT_xiconst (k := 1) (pcN := 1190) jI_379_1189 rfl ?_
  refine jT_xiadd (x := 0) (y := 1) (z := 1) (pcN := 1191) jI_379_1190 rfl (by decide) rfl ?_
  refine jT_adv 1 (pcN := 1192) (LN := [(6, (0, 1)), (5, (0, 0)), (4, (4, 3)), (3, (4, 2)), (2, (4, 1)), (1, (4, 0)), (0, (6, 0))]) (stN := [(0, x1), (4, 1)]) (hsN := jpA_1911) (c1 := 0) (s1 := 0) (c2 := 0) (s2 := 0) (by exact rfl) ?_ (by omega) (by omega)
  refine jT_eq (LN := [(6, (0, 1)), (5, (0, 0)), (4, (4, 3)), (3, (4, 2)), (2, (4, 1)), (1, (4, 0)), (0, (6, 0))]) (stN := [(0, 0), (4, 1)]) (hsN := [jzA_265, jzA_266, jgh, jgh, jgh, jgh, jgh, jgh, jgh, jgh, jgh, jgh, jgh, jgh, jzA_322, (100, [], jS0), jgh, jgh, jgh, jgh, jgh, jgh, jgh, jgh, jgh, jgh, jgh, jgh, jgh, jgh, jgh, (117, [], [35, 36, 37, 38]), jgh, jgh, jgh, (7, [(4, 39), (4, (-1)), (4, (-1))], []), jgh, jgh, jgh, (114, [], [40]), jgh]) (rfl) (by simp only [List.cons.injEq, Prod.mk.injEq, and_true, true_and] <;> ((try unfold jw); (try unfold jwl); omega)) (rfl) ?_
  refine jT_xaload_n (v := (6, 0)) (pcN := 1193) jI_379_1192 rfl rfl rfl ?_
  refine jT_xiload (v := (0, 0)) (pcN := 1195) jI_379_1193 rfl rfl rfl ?_
  refine jT_xiconst (k := 2) (pcN := 1196) jI_379_1195 rfl ?_
  refine jT_xiadd (x := 0) (y := 2) (z := 2) (pcN := 1197) jI_379_1196 rfl (by decide) rfl ?_
  refine jT_adv 1 (pcN := 1198) (LN := [(6, (0, 1)), (5, (0, 0)), (4, (4, 3)), (3, (4, 2)), (2, (4, 1)), (1, (4, 0)), (0, (6, 0))]) (stN := [(0, x2), (0, 0), (4, 1)]) (hsN := jpA_1911) (c1 := 0) (s1 := 0) (c2 := 0) (s2 := 0) (by exact rfl) ?_ (by omega) (by omega)
  refine jT_fB [1, 15, 16, 17, 18, 19, 20, 21, 22, 23, 24, 25, 26, 27, 28, 29] 41 (y := 246) (pcN := 1201) (dC := 2) (bc1 := 0) (bc2 := 0) (c1 := 0) (c2 := 0) (as := [(4, 1), (0, 0), (0, x2)]) (asC := [(4, 0), (0, 0), (0, x2)]) (LN := [(6, (0, 1)), (5, (0, 0)), (4, (4, 3)), (3, (4, 2)), (2, (4, 1)), (1, (4, 0)), (0, (6, 0))]) (stN := []) (hsC := jpA_1519) (hsD := jpA_1820) (v := (0, 0)) (st2 := [(0, 0)]) (hs2 := jpA_1912) (jA_246_457 (d := 0) (by omega)) (by rfl) (by rfl) (by decide +kernel) (by rfl) (by rfl) (by omega) (by omega) (by omega) (by omega) rfl (by decide +kernel) ?_
  refine jT_xistore (v := (0, 0)) (LN := [(7, (0, 0)), (6, (0, 1)), (5, (0, 0)), (4, (4, 3)), (3, (4, 2)), (2, (4, 1)), (1, (4, 0)), (0, (6, 0))]) (pcN := 1203) jI_379_1201 rfl rfl rfl rfl ?_
  refine jT_xaload_n (v := (4, 1)) (pcN := 1204) jI_379_1203 rfl rfl rfl ?_
  refine jT_fR [1, 15, 16, 17, 18, 19, 20, 21, 22, 23, 24, 25, 26, 27, 28, 29] 41 (y := 186) (pcN := 1207) (dC := 0) (bc1 := 0) (bc2 := 0) (c1 := 0) (c2 := 0) (as := [(4, 1)]) (asC := [(4, 0)]) (LN := [(7, (0, 0)), (6, (0, 1)), (5, (0, 0)), (4, (4, 3)), (3, (4, 2)), (2, (4, 1)), (1, (4, 0)), (0, (6, 0))]) (stN := []) (hsC := jpA_20) (v := (0, 1)) (st2 := [(0, 1)]) (jA_186_8 (d := 0)) (by rfl) (by rfl) (by decide +kernel) (by rfl) (by rfl) (by omega) (by omega) (by omega) (by omega) rfl ?_
  refine jT_xiload (v := (0, 1)) (pcN := 1209) jI_379_1207 rfl rfl rfl ?_
  refine jT_xicT (pcN := 1214) jI_379_1209 rfl (by decide +kernel) rfl ?_
  refine jT_xiload (v := (0, 1)) (pcN := 1216) jI_379_1214 rfl rfl rfl ?_
  refine jT_xifT (pcN := 1231) jI_379_1216 rfl (by decide +kernel) rfl ?_
  refine jT_xgoto (pcN := 3740) jI_379_1231 rfl ?_
  refine jT_xiinc (x := 0) (z := 5) (LN := [(5, (0, 5)), (7, (0, 0)), (6, (0, 1)), (4, (4, 3)), (3, (4, 2)), (2, (4, 1)), (1, (4, 0)), (0, (6, 0))]) (pcN := 3743) jI_379_3740 rfl rfl (by decide) rfl rfl ?_
  refine jT_xgoto (pcN := 28) jI_379_3743 rfl ?_
  refine jT_xiload (v := (0, 5)) (pcN := 30) jI_379_28 rfl rfl rfl ?_
  refine jT_xaload_n (v := (6, 0)) (pcN := 31) jI_379_30 rfl rfl rfl ?_
  refine jT_adv 1 (pcN := 32) (LN := [(5, (0, 5)), (7, (0, 0)), (6, (0, 1)), (4, (4, 3)), (3, (4, 2)), (2, (4, 1)), (1, (4, 0)), (0, (6, 0))]) (stN := [(0, 5), (0, 5)]) (hsN := jpA_1912) (c1 := 0) (s1 := 0) (c2 := 0) (s2 := 0) (by exact rfl) ?_ (by omega) (by omega)
  refine jT_xiconst (k := 5) (pcN := 33) jI_379_32 rfl ?_
  refine jT_xisub (x := 5) (y := 5) (z := 0) (pcN := 34) jI_379_33 rfl (by decide) rfl ?_
  refine jT_xicT (pcN := 3746) jI_379_34 rfl (by decide +kernel) rfl ?_
  refine jT_xiconst (k := 1) (pcN := 3747) jI_379_3746 rfl ?_
  exact jT_ret rfl (by decide) (by show 41 ≤ 41; decide) (by omega) (by omega) ⟨rfl, rfl⟩
def jpA_1923 : List JC := [jzA_265, jzA_266, jgh, jgh, jgh, jgh, jgh, jgh, jgh, jgh, jgh, jgh, jgh, jgh, jzA_322, (100, [], jS0), jgh, jgh, jgh, jgh, jgh, jgh, jgh, jgh, jgh, jgh, jgh, jgh, jgh, jgh, jgh, (117, [], [35, 36, 37, 38]), jgh, jgh, jgh, jgh, (7, [(4, 39), (4, (-1)), (4, (-1))], []), jgh, jgh, (114, [], [40]), jgh]
def jpA_1924 : List JC := [jzA_265, jzA_305, jgh, jgh, jgh, jgh, jgh, jgh, jgh, jgh, jgh, jgh, jgh, jgh, jzA_322, (100, [], jS0), jgh, jgh, jgh, jgh, jgh, jgh, jgh, jgh, jgh, jgh, jgh, jgh, jgh, jgh, jgh, (117, [], [35, 36, 37, 38]), jgh, jgh, jgh, jgh, (7, [(4, 39), (4, (-1)), (4, (-1))], []), jgh, jgh, (114, [], [40]), jgh]
set_option maxRecDepth 100000 in
theorem jL_11_4 {d : Nat} {x0 x1 x2 x3 x4 : Int} (h_x0 : (-2147483648) ≤ x0 ∧ x0 ≤ 2147483647) (h_x1 : 1 ≤ x1 ∧ x1 ≤ 1) (h_x2 : (-2147483648) ≤ x2 ∧ x2 ≤ (-1)) (h_x3 : (-2147483648) ≤ x3 ∧ x3 ≤ 2147483647) (h_x4 : (-2147483648) ≤ x4 ∧ x4 ≤ 2147483647) : jT [x0, x1, x2, x3, x4] (d + 3) 379 41 1166 [(5, (0, 0)), (4, (4, 3)), (3, (4, 2)), (2, (4, 1)), (1, (4, 0)), (0, (6, 0))] [] jpA_1923 1 6 (fun k v hsN => k = 0 ∧ v = (0, 1)) := by
  refine jT_xaload_n (v := (4, 0)) (pcN := 1167) jI_379_1166 rfl rfl rfl ?_
  refine jT_xaload_n (v := (6, 0)) (pcN := 1168) jI_379_1167 rfl rfl rfl ?_
  refine jT_xiload (v := (0, 0)) (pcN := 1170) jI_379_1168 rfl rfl rfl ?_
  refine jT_xiconst (k := 1) (pcN := 1171) jI_379_1170 rfl ?_
  refine jT_xiadd (x := 0) (y := 1) (z := 1) (pcN := 1172) jI_379_1171 rfl (by decide) rfl ?_
  refine jT_adv 1 (pcN := 1173) (LN := [(5, (0, 0)), (4, (4, 3)), (3, (4, 2)), (2, (4, 1)), (1, (4, 0)), (0, (6, 0))]) (stN := [(0, x1), (4, 0)]) (hsN := jpA_1923) (c1 := 0) (s1 := 0) (c2 := 1) (s2 := 6) (by exact rfl) ?_ (by omega) (by omega)
  refine jT_eq (LN := [(5, (0, 0)), (4, (4, 3)), (3, (4, 2)), (2, (4, 1)), (1, (4, 0)), (0, (6, 0))]) (stN := [(0, 1), (4, 0)]) (hsN := [jzA_265, jzA_266, jgh, jgh, jgh, jgh, jgh, jgh, jgh, jgh, jgh, jgh, jgh, jgh, jzA_322, (100, [], jS0), jgh, jgh, jgh, jgh, jgh, jgh, jgh, jgh, jgh, jgh, jgh, jgh, jgh, jgh, jgh, (117, [], [35, 36, 37, 38]), jgh, jgh, jgh, jgh, (7, [(4, 39), (4, (-1)), (4, (-1))], []), jgh, jgh, (114, [], [40]), jgh]) (rfl) (by simp only [List.cons.injEq, Prod.mk.injEq, and_true, true_and] <;> ((try unfold jw); (try unfold jwl); omega)) (rfl) ?_
  refine jT_xaload_n (v := (6, 0)) (pcN := 1174) jI_379_1173 rfl rfl rfl ?_
  refine jT_xiload (v := (0, 0)) (pcN := 1176) jI_379_1174 rfl rfl rfl ?_
  refine jT_xiconst (k := 2) (pcN := 1177) jI_379_1176 rfl ?_
  refine jT_xiadd (x := 0) (y := 2) (z := 2) (pcN := 1178) jI_379_1177 rfl (by decide) rfl ?_
  refine jT_adv 1 (pcN := 1179) (LN := [(5, (0, 0)), (4, (4, 3)), (3, (4, 2)), (2, (4, 1)), (1, (4, 0)), (0, (6, 0))]) (stN := [(0, x2), (0, 1), (4, 0)]) (hsN := jpA_1923) (c1 := 0) (s1 := 0) (c2 := 1) (s2 := 6) (by exact rfl) ?_ (by omega) (by omega)
  refine jT_xaload_n (v := (4, 2)) (pcN := 1180) jI_379_1179 rfl rfl rfl ?_
  refine jT_fR [0, 2, 4, 5, 6, 7, 8, 9, 10, 11, 12, 13, 14, 30, 31, 32, 33, 34, 35, 36, 37, 38, 39, 40] 41 (y := 337) (pcN := 1183) (dC := 2) (bc1 := 1) (bc2 := 6) (c1 := 0) (c2 := 0) (as := [(4, 0), (0, 1), (0, x2), (4, 2)]) (asC := [(4, 0), (0, 1), (0, x2), (4, 1)]) (LN := [(5, (0, 0)), (4, (4, 3)), (3, (4, 2)), (2, (4, 1)), (1, (4, 0)), (0, (6, 0))]) (stN := []) (hsC := jpA_1846) (v := (0, 1)) (st2 := [(0, 1)]) (jA_337_459 (d := 0) (by omega)) (by rfl) (by rfl) (by decide +kernel) (by rfl) (by rfl) (by omega) (by omega) (by omega) (by omega) rfl ?_
  refine jT_xistore (v := (0, 1)) (LN := [(6, (0, 1)), (5, (0, 0)), (4, (4, 3)), (3, (4, 2)), (2, (4, 1)), (1, (4, 0)), (0, (6, 0))]) (pcN := 1185) jI_379_1183 rfl rfl rfl rfl ?_
  refine jT_xaload_n (v := (4, 1)) (pcN := 1186) jI_379_1185 rfl rfl rfl ?_
  refine jT_xaload_n (v := (6, 0)) (pcN := 1187) jI_379_1186 rfl rfl rfl ?_
  refine jT_xiload (v := (0, 0)) (pcN := 1189) jI_379_1187 rfl rfl rfl ?_
  refine jT_xiconst (k := 1) (pcN := 1190) jI_379_1189 rfl ?_
  refine jT_xiadd (x := 0) (y := 1) (z := 1) (pcN := 1191) jI_379_1190 rfl (by decide) rfl ?_
  refine jT_adv 1 (pcN := 1192) (LN := [(6, (0, 1)), (5, (0, 0)), (4, (4, 3)), (3, (4, 2)), (2, (4, 1)), (1, (4, 0)), (0, (6, 0))]) (stN := [(0, x1), (4, 1)]) (hsN := jpA_1923) (c1 := 0) (s1 := 0) (c2 := 0) (s2 := 0) (by exact rfl) ?_ (by omega) (by omega)
  refine jT_eq (LN := [(6, (0, 1)), (5, (0, 0)), (4, (4, 3)), (3, (4, 2)), (2, (4, 1)), (1, (4, 0)), (0, (6, 0))]) (stN := [(0, 1), (4, 1)]) (hsN := [jzA_265, jzA_266, jgh, jgh, jgh, jgh, jgh, jgh, jgh, jgh, jgh, jgh, jgh, jgh, jzA_322, (100, [], jS0), jgh, jgh, jgh, jgh, jgh, jgh, jgh, jgh, jgh, jgh, jgh, jgh, jgh, jgh, jgh, (117, [], [35, 36, 37, 38]), jgh, jgh, jgh, jgh, (7, [(4, 39), (4, (-1)), (4, (-1))], []), jgh, jgh, (114, [], [40]), jgh]) (rfl) (by simp only [List.cons.injEq, Prod.mk.injEq, and_true, true_and] <;> ((try unfold jw); (try unfold jwl); omega)) (rfl) ?_
  refine jT_xaload_n (v := (6, 0)) (pcN := 1193) jI_379_1192 rfl rfl rfl ?_
  refine jT_xiload (v := (0, 0)) (pcN := 1195) jI_379_1193 rfl rfl rfl ?_
  refine jT_xiconst (k := 2) (pcN := 1196) jI_379_1195 rfl ?_
  refine jT_xiadd (x := 0) (y := 2) (z := 2) (pcN := 1197) jI_379_1196 rfl (by decide) rfl ?_
  refine jT_adv 1 (pcN := 1198) (LN := [(6, (0, 1)), (5, (0, 0)), (4, (4, 3)), (3, (4, 2)), (2, (4, 1)), (1, (4, 0)), (0, (6, 0))]) (stN := [(0, x2), (0, 1), (4, 1)]) (hsN := jpA_1923) (c1 := 0) (s1 := 0) (c2 := 0) (s2 := 0) (by exact rfl) ?_ (by omega) (by omega)
  refine jT_fB [1, 15, 16, 17, 18, 19, 20, 21, 22, 23, 24, 25, 26, 27, 28, 29] 41 (y := 246) (pcN := 1201) (dC := 2) (bc1 := 0) (bc2 := 0) (c1 := 0) (c2 := 0) (as := [(4, 1), (0, 1), (0, x2)]) (asC := [(4, 0), (0, 1), (0, x2)]) (LN := [(6, (0, 1)), (5, (0, 0)), (4, (4, 3)), (3, (4, 2)), (2, (4, 1)), (1, (4, 0)), (0, (6, 0))]) (stN := []) (hsC := jpA_1519) (hsD := jpA_1820) (v := (0, 0)) (st2 := [(0, 0)]) (hs2 := jpA_1924) (jA_246_461 (d := 0) (by omega)) (by rfl) (by rfl) (by decide +kernel) (by rfl) (by rfl) (by omega) (by omega) (by omega) (by omega) rfl (by decide +kernel) ?_
  refine jT_xistore (v := (0, 0)) (LN := [(7, (0, 0)), (6, (0, 1)), (5, (0, 0)), (4, (4, 3)), (3, (4, 2)), (2, (4, 1)), (1, (4, 0)), (0, (6, 0))]) (pcN := 1203) jI_379_1201 rfl rfl rfl rfl ?_
  refine jT_xaload_n (v := (4, 1)) (pcN := 1204) jI_379_1203 rfl rfl rfl ?_
  refine jT_fR [1, 15, 16, 17, 18, 19, 20, 21, 22, 23, 24, 25, 26, 27, 28, 29] 41 (y := 186) (pcN := 1207) (dC := 0) (bc1 := 0) (bc2 := 0) (c1 := 0) (c2 := 0) (as := [(4, 1)]) (asC := [(4, 0)]) (LN := [(7, (0, 0)), (6, (0, 1)), (5, (0, 0)), (4, (4, 3)), (3, (4, 2)), (2, (4, 1)), (1, (4, 0)), (0, (6, 0))]) (stN := []) (hsC := jpA_20) (v := (0, 1)) (st2 := [(0, 1)]) (jA_186_8 (d := 0)) (by rfl) (by rfl) (by decide +kernel) (by rfl) (by rfl) (by omega) (by omega) (by omega) (by omega) rfl ?_
  refine jT_xiload (v := (0, 1)) (pcN := 1209) jI_379_1207 rfl rfl rfl ?_
  refine jT_xicT (pcN := 1214) jI_379_1209 rfl (by decide +kernel) rfl ?_
  refine jT_xiload (v := (0, 1)) (pcN := 1216) jI_379_1214 rfl rfl rfl ?_
  refine jT_xifT (pcN := 1231) jI_379_1216 rfl (by decide +kernel) rfl ?_
  refine jT_xgoto (pcN := 3740) jI_379_1231 rfl ?_
  refine jT_xiinc (x := 0) (z := 5) (LN := [(5, (0, 5)), (7, (0, 0)), (6, (0, 1)), (4, (4, 3)), (3, (4, 2)), (2, (4, 1)), (1, (4, 0)), (0, (6, 0))]) (pcN := 3743) jI_379_3740 rfl rfl (by decide) rfl rfl ?_
  refine jT_xgoto (pcN := 28) jI_379_3743 rfl ?_
  refine jT_xiload (v := (0, 5)) (pcN := 30) jI_379_28 rfl rfl rfl ?_
  refine jT_xaload_n (v := (6, 0)) (pcN := 31) jI_379_30 rfl rfl rfl ?_
  refine jT_adv 1 (pcN := 32) (LN := [(5, (0, 5)), (7, (0, 0)), (6, (0, 1)), (4, (4, 3)), (3, (4, 2)), (2, (4, 1)), (1, (4, 0)), (0, (6, 0))]) (stN := [(0, 5), (0, 5)]) (hsN := jpA_1924) (c1 := 0) (s1 := 0) (c2 := 0) (s2 := 0) (by exact rfl) ?_ (by omega) (by omega)
  refine jT_xiconst (k := 5) (pcN := 33) jI_379_32 rfl ?_
  refine jT_xisub (x := 5) (y := 5) (z := 0) (pcN := 34) jI_379_33 rfl (by decide) rfl ?_
  refine jT_xicT (pcN := 3746) jI_379_34 rfl (by decide +kernel) rfl ?_
  refine jT_xiconst (k := 1) (pcN := 3747) jI_379_3746 rfl ?_
  exact jT_ret rfl (by decide) (by show 41 ≤ 41; decide) (by omega) (by omega) ⟨rfl, rfl⟩
def jpA_1925 : List JC := [jzA_265, jzA_266, (101, [], [0]), jgh, jgh, jgh, jgh, jgh, jgh, jgh, jgh, jgh, jgh, jzA_79, jzA_322, (100, [], jS0), (100, [], []), jzA_323, jzA_197, jgh, jgh, (101, [], [0, 0, 0, 0, 0, 0]), (100, [], (List.replicate 1792 0)), jgh, jgh, jgh, jgh, jgh, jgh, jgh, jgh, (117, [], [43, 44, 45, 46]), jgh, jgh, jgh, (100, [], (List.replicate 1613 0)), jgh, jgh, jgh, jgh, jgh, jgh, jgh, jgh, (7, [(4, 47), (4, (-1)), (4, (-1))], []), jgh, jgh, (114, [], [48]), (4, [(4, 49), (1, 1)], []), (101, [], [0, 0, 0, 0, 0, 0])]
def jpA_1926 : List JC := [jzA_725, jzA_266, (101, [], [1]), jgh, jgh, jgh, jgh, jgh, jgh, jgh, jgh, jgh, jgh, jzA_327, jzA_322, (100, [], jS0), (100, [], []), jzA_323, jzA_197, jgh, jgh, (101, [], [0, 0, 0, 0, 0, 0]), (100, [], (List.replicate 1792 0)), jgh, jgh, jgh, jgh, jgh, jgh, jgh, jgh, (117, [], [43, 44, 45, 46]), jgh, jgh, jgh, (100, [], (List.replicate 1613 0)), jgh, jgh, jgh, jgh, jgh, jgh, jgh, jgh, (7, [(4, 47), (4, (-1)), (4, (-1))], []), jgh, jgh, (114, [], [48]), (4, [(4, 49), (1, 1)], []), (101, [], [0, 0, 0, 0, 0, 0]), (114, [], [52]), (101, [], [0, 0, 0, 0, 0, 0]), (4, [(4, 51), (1, 1)], []), (114, [], [52]), (7, [(4, 53), (4, (-1)), (4, (-1))], []), (117, [], [43, 54, 45, 46]), jzA_1914]
def jpA_1927 : List JC := [jzA_725, jzA_1753, (101, [], [1]), jgh, jgh, jgh, jgh, jgh, jgh, jgh, jgh, jgh, jgh, jzA_327, jzA_322, jzA_1645, (100, [], []), jzA_323, jzA_331, jgh, jgh, (101, [], [0, 0, 0, 0, 0, 0]), jzA_1539, jgh, jgh, jgh, jgh, jgh, jgh, jgh, jgh, (117, [], [43, 44, 45, 46]), jgh, jgh, jgh, (100, [], jS0), jgh, jgh, jgh, jgh, jgh, jgh, jgh, jgh, (7, [(4, 47), (4, (-1)), (4, (-1))], []), jgh, jgh, (114, [], [48]), (4, [(4, 49), (1, 1)], []), (101, [], [0, 0, 0, 0, 0, 0]), (114, [], [52]), (101, [], [0, 0, 0, 0, 0, 0]), (4, [(4, 51), (1, 1)], []), (114, [], [52]), (7, [(4, 53), (4, (-1)), (4, (-1))], []), (117, [], [43, 54, 45, 46]), jzA_1914]
set_option maxRecDepth 100000 in
theorem jL_11_5 {d : Nat} {x0 x1 x2 x3 x4 : Int} (h_x0 : (-2147483648) ≤ x0 ∧ x0 ≤ 2147483647) (h_x1 : 1 ≤ x1 ∧ x1 ≤ 1) (h_x2 : 0 ≤ x2 ∧ x2 ≤ 0) (h_x3 : (-2147483648) ≤ x3 ∧ x3 ≤ 2147483647) (h_x4 : (-2147483648) ≤ x4 ∧ x4 ≤ 2147483647) : jT [x0, x1, x2, x3, x4] (d + 6) 379 50 1166 [(5, (0, 0)), (4, (4, 3)), (3, (4, 2)), (2, (4, 1)), (1, (4, 0)), (0, (6, 0))] [] jpA_1925 7 22 (fun k v hsN => k = 0 ∧ v = (0, 1)) := by
  refine jT_xaload_n (v := (4, 0)) (pcN := 1167) jI_379_1166 rfl rfl rfl ?_
  refine jT_xaload_n (v := (6, 0)) (pcN := 1168) jI_379_1167 rfl rfl rfl ?_
  refine jT_xiload (v := (0, 0)) (pcN := 1170) jI_379_1168 rfl rfl rfl ?_
  refine jT_xiconst (k := 1) (pcN := 1171) jI_379_1170 rfl ?_
  refine jT_xiadd (x := 0) (y := 1) (z := 1) (pcN := 1172) jI_379_1171 rfl (by decide) rfl ?_
  refine jT_adv 1 (pcN := 1173) (LN := [(5, (0, 0)), (4, (4, 3)), (3, (4, 2)), (2, (4, 1)), (1, (4, 0)), (0, (6, 0))]) (stN := [(0, x1), (4, 0)]) (hsN := jpA_1925) (c1 := 0) (s1 := 0) (c2 := 7) (s2 := 22) (by exact rfl) ?_ (by omega) (by omega)
  refine jT_eq (LN := [(5, (0, 0)), (4, (4, 3)), (3, (4, 2)), (2, (4, 1)), (1, (4, 0)), (0, (6, 0))]) (stN := [(0, 1), (4, 0)]) (hsN := [jzA_265, jzA_266, (101, [], [0]), jgh, jgh, jgh, jgh, jgh, jgh, jgh, jgh, jgh, jgh, jzA_79, jzA_322, (100, [], jS0), (100, [], []), jzA_323, jzA_197, jgh, jgh, (101, [], [0, 0, 0, 0, 0, 0]), (100, [], (List.replicate 1792 0)), jgh, jgh, jgh, jgh, jgh, jgh, jgh, jgh, (117, [], [43, 44, 45, 46]), jgh, jgh, jgh, (100, [], (List.replicate 1613 0)), jgh, jgh, jgh, jgh, jgh, jgh, jgh, jgh, (7, [(4, 47), (4, (-1)), (4, (-1))], []), jgh, jgh, (114, [], [48]), (4, [(4, 49), (1, 1)], []), (101, [], [0, 0, 0, 0, 0, 0])]) (rfl) (by simp only [List.cons.injEq, Prod.mk.injEq, and_true, true_and] <;> ((try unfold jw); (try unfold jwl); omega)) (rfl) ?_
  refine jT_xaload_n (v := (6, 0)) (pcN := 1174) jI_379_1173 rfl rfl rfl ?_
  refine jT_xiload (v := (0, 0)) (pcN := 1176) jI_379_1174 rfl rfl rfl ?_
  refine jT_xiconst (k := 2) (pcN := 1177) jI_379_1176 rfl ?_
  refine jT_xiadd (x := 0) (y := 2) (z := 2) (pcN := 1178) jI_379_1177 rfl (by decide) rfl ?_
  refine jT_adv 1 (pcN := 1179) (LN := [(5, (0, 0)), (4, (4, 3)), (3, (4, 2)), (2, (4, 1)), (1, (4, 0)), (0, (6, 0))]) (stN := [(0, x2), (0, 1), (4, 0)]) (hsN := jpA_1925) (c1 := 0) (s1 := 0) (c2 := 7) (s2 := 22) (by exact rfl) ?_ (by omega) (by omega)
  refine jT_eq (LN := [(5, (0, 0)), (4, (4, 3)), (3, (4, 2)), (2, (4, 1)), (1, (4, 0)), (0, (6, 0))]) (stN := [(0, 0), (0, 1), (4, 0)]) (hsN := [jzA_265, jzA_266, (101, [], [0]), jgh, jgh, jgh, jgh, jgh, jgh, jgh, jgh, jgh, jgh, jzA_79, jzA_322, (100, [], jS0), (100, [], []), jzA_323, jzA_197, jgh, jgh, (101, [], [0, 0, 0, 0, 0, 0]), (100, [], (List.replicate 1792 0)), jgh, jgh, jgh, jgh, jgh, jgh, jgh, jgh, (117, [], [43, 44, 45, 46]), jgh, jgh, jgh, (100, [], (List.replicate 1613 0)), jgh, jgh, jgh, jgh, jgh, jgh, jgh, jgh, (7, [(4, 47), (4, (-1)), (4, (-1))], []), jgh, jgh, (114, [], [48]), (4, [(4, 49), (1, 1)], []), (101, [], [0, 0, 0, 0, 0, 0])]) (rfl) (by simp only [List.cons.injEq, Prod.mk.injEq, and_true, true_and] <;> ((try unfold jw); (try unfold jwl); omega)) (rfl) ?_
  refine jT_xaload_n (v := (4, 2)) (pcN := 1180) jI_379_1179 rfl rfl rfl ?_
  refine jT_fB [0, 2, 4, 5, 6, 7, 8, 9, 10, 11, 12, 13, 14, 30, 31, 32, 33, 34, 43, 44, 45, 46, 47, 48, 49] 50 (y := 337) (pcN := 1183) (dC := 5) (bc1 := 7) (bc2 := 22) (c1 := 0) (c2 := 0) (as := [(4, 0), (0, 1), (0, 0), (4, 2)]) (asC := [(4, 0), (0, 1), (0, 0), (4, 1)]) (LN := [(5, (0, 0)), (4, (4, 3)), (3, (4, 2)), (2, (4, 1)), (1, (4, 0)), (0, (6, 0))]) (stN := []) (hsC := jpA_1854) (hsD := jpA_1856) (v := (0, 0)) (st2 := [(0, 0)]) (hs2 := jpA_1926) (jA_337_463 (d := 0)) (by rfl) (by rfl) (by decide +kernel) (by rfl) (by rfl) (by omega) (by omega) (by omega) (by omega) rfl (by decide +kernel) ?_
  refine jT_xistore (v := (0, 0)) (LN := [(6, (0, 0)), (5, (0, 0)), (4, (4, 3)), (3, (4, 2)), (2, (4, 1)), (1, (4, 0)), (0, (6, 0))]) (pcN := 1185) jI_379_1183 rfl rfl rfl rfl ?_
  refine jT_xaload_n (v := (4, 1)) (pcN := 1186) jI_379_1185 rfl rfl rfl ?_
  refine jT_xaload_n (v := (6, 0)) (pcN := 1187) jI_379_1186 rfl rfl rfl ?_
  refine jT_xiload (v := (0, 0)) (pcN := 1189) jI_379_1187 rfl rfl rfl ?_
  refine jT_xiconst (k := 1) (pcN := 1190) jI_379_1189 rfl ?_
  refine jT_xiadd (x := 0) (y := 1) (z := 1) (pcN := 1191) jI_379_1190 rfl (by decide) rfl ?_
  refine jT_adv 1 (pcN := 1192) (LN := [(6, (0, 0)), (5, (0, 0)), (4, (4, 3)), (3, (4, 2)), (2, (4, 1)), (1, (4, 0)), (0, (6, 0))]) (stN := [(0, x1), (4, 1)]) (hsN := jpA_1926) (c1 := 0) (s1 := 0) (c2 := 0) (s2 := 0) (by exact rfl) ?_ (by omega) (by omega)
  refine jT_eq (LN := [(6, (0, 0)), (5, (0, 0)), (4, (4, 3)), (3, (4, 2)), (2, (4, 1)), (1, (4, 0)), (0, (6, 0))]) (stN := [(0, 1), (4, 1)]) (hsN := [jzA_725, jzA_266, (101, [], [1]), jgh, jgh, jgh, jgh, jgh, jgh, jgh, jgh, jgh, jgh, jzA_327, jzA_322, (100, [], jS0), (100, [], []), jzA_323, jzA_197, jgh, jgh, (101, [], [0, 0, 0, 0, 0, 0]), (100, [], (List.replicate 1792 0)), jgh, jgh, jgh, jgh, jgh, jgh, jgh, jgh, (117, [], [43, 44, 45, 46]), jgh, jgh, jgh, (100, [], (List.replicate 1613 0)), jgh, jgh, jgh, jgh, jgh, jgh, jgh, jgh, (7, [(4, 47), (4, (-1)), (4, (-1))], []), jgh, jgh, (114, [], [48]), (4, [(4, 49), (1, 1)], []), (101, [], [0, 0, 0, 0, 0, 0]), (114, [], [52]), (101, [], [0, 0, 0, 0, 0, 0]), (4, [(4, 51), (1, 1)], []), (114, [], [52]), (7, [(4, 53), (4, (-1)), (4, (-1))], []), (117, [], [43, 54, 45, 46]), jzA_1914]) (rfl) (by simp only [List.cons.injEq, Prod.mk.injEq, and_true, true_and] <;> ((try unfold jw); (try unfold jwl); omega)) (rfl) ?_
  refine jT_xaload_n (v := (6, 0)) (pcN := 1193) jI_379_1192 rfl rfl rfl ?_
  refine jT_xiload (v := (0, 0)) (pcN := 1195) jI_379_1193 rfl rfl rfl ?_
  refine jT_xiconst (k := 2) (pcN := 1196) jI_379_1195 rfl ?_
  refine jT_xiadd (x := 0) (y := 2) (z := 2) (pcN := 1197) jI_379_1196 rfl (by decide) rfl ?_
  refine jT_adv 1 (pcN := 1198) (LN := [(6, (0, 0)), (5, (0, 0)), (4, (4, 3)), (3, (4, 2)), (2, (4, 1)), (1, (4, 0)), (0, (6, 0))]) (stN := [(0, x2), (0, 1), (4, 1)]) (hsN := jpA_1926) (c1 := 0) (s1 := 0) (c2 := 0) (s2 := 0) (by exact rfl) ?_ (by omega) (by omega)
  refine jT_eq (LN := [(6, (0, 0)), (5, (0, 0)), (4, (4, 3)), (3, (4, 2)), (2, (4, 1)), (1, (4, 0)), (0, (6, 0))]) (stN := [(0, 0), (0, 1), (4, 1)]) (hsN := [jzA_725, jzA_266, (101, [], [1]), jgh, jgh, jgh, jgh, jgh, jgh, jgh, jgh, jgh, jgh, jzA_327, jzA_322, (100, [], jS0), (100, [], []), jzA_323, jzA_197, jgh, jgh, (101, [], [0, 0, 0, 0, 0, 0]), (100, [], (List.replicate 1792 0)), jgh, jgh, jgh, jgh, jgh, jgh, jgh, jgh, (117, [], [43, 44, 45, 46]), jgh, jgh, jgh, (100, [], (List.replicate 1613 0)), jgh, jgh, jgh, jgh, jgh, jgh, jgh, jgh, (7, [(4, 47), (4, (-1)), (4, (-1))], []), jgh, jgh, (114, [], [48]), (4, [(4, 49), (1, 1)], []), (101, [], [0, 0, 0, 0, 0, 0]), (114, [], [52]), (101, [], [0, 0, 0, 0, 0, 0]), (4, [(4, 51), (1, 1)], []), (114, [], [52]), (7, [(4, 53), (4, (-1)), (4, (-1))], []), (117, [], [43, 54, 45, 46]), jzA_1914]) (rfl) (by simp only [List.cons.injEq, Prod.mk.injEq, and_true, true_and] <;> ((try unfold jw); (try unfold jwl); omega)) (rfl) ?_
  refine jT_fB [1, 15, 16, 17, 18, 19, 20, 21, 22, 23, 24, 25, 26, 27, 28, 29, 35, 36, 37, 38, 39, 40, 41, 42] 57 (y := 246) (pcN := 1201) (dC := 4) (bc1 := 0) (bc2 := 0) (c1 := 0) (c2 := 0) (as := [(4, 1), (0, 1), (0, 0)]) (asC := [(4, 0), (0, 1), (0, 0)]) (LN := [(6, (0, 0)), (5, (0, 0)), (4, (4, 3)), (3, (4, 2)), (2, (4, 1)), (1, (4, 0)), (0, (6, 0))]) (stN := []) (hsC := jpA_1842) (hsD := jpA_1857) (v := (0, 1)) (st2 := [(0, 1)]) (hs2 := jpA_1927) (jA_246_467 (d := 0)) (by rfl) (by rfl) (by decide +kernel) (by rfl) (by rfl) (by omega) (by omega) (by omega) (by omega) rfl (by decide +kernel) ?_
  refine jT_xistore (v := (0, 1)) (LN := [(7, (0, 1)), (6, (0, 0)), (5, (0, 0)), (4, (4, 3)), (3, (4, 2)), (2, (4, 1)), (1, (4, 0)), (0, (6, 0))]) (pcN := 1203) jI_379_1201 rfl rfl rfl rfl ?_
  refine jT_xaload_n (v := (4, 1)) (pcN := 1204) jI_379_1203 rfl rfl rfl ?_
  refine jT_fR [1, 15, 16, 17, 18, 19, 20, 21, 22, 23, 24, 25, 26, 27, 28, 29] 57 (y := 186) (pcN := 1207) (dC := 0) (bc1 := 0) (bc2 := 0) (c1 := 0) (c2 := 0) (as := [(4, 1)]) (asC := [(4, 0)]) (LN := [(7, (0, 1)), (6, (0, 0)), (5, (0, 0)), (4, (4, 3)), (3, (4, 2)), (2, (4, 1)), (1, (4, 0)), (0, (6, 0))]) (stN := []) (hsC := jpA_1633) (v := (0, 0)) (st2 := [(0, 0)]) (jA_186_355 (d := 0)) (by rfl) (by rfl) (by decide +kernel) (by rfl) (by rfl) (by omega) (by omega) (by omega) (by omega) rfl ?_
  refine jT_xiload (v := (0, 0)) (pcN := 1209) jI_379_1207 rfl rfl rfl ?_
  refine jT_xicT (pcN := 1214) jI_379_1209 rfl (by decide +kernel) rfl ?_
  refine jT_xiload (v := (0, 0)) (pcN := 1216) jI_379_1214 rfl rfl rfl ?_
  refine jT_xifF (t := 1231) (pcN := 1219) jI_379_1216 rfl (by decide +kernel) rfl rfl ?_
  refine jT_xaload_n (v := (4, 2)) (pcN := 1220) jI_379_1219 rfl rfl rfl ?_
  refine jT_xiconst (k := 0) (pcN := 1221) jI_379_1220 rfl ?_
  refine jT_lald (x := 1) (a := 2) (j := 0) (fs := []) (X := [1]) jI_379_1221 rfl rfl rfl rfl ?_
  refine jT_eq (LN := [(7, (0, 1)), (6, (0, 0)), (5, (0, 0)), (4, (4, 3)), (3, (4, 2)), (2, (4, 1)), (1, (4, 0)), (0, (6, 0))]) (stN := [(1, 1)]) (hsN := jpA_1927) rfl rfl rfl ?_
  refine jT_xiload (v := (0, 1)) (pcN := 1224) jI_379_1222 rfl rfl rfl ?_
  refine jT_xi2l (x := 1) (z := 1) (pcN := 1225) jI_379_1224 rfl (by decide +kernel) rfl ?_
  refine jT_lcmp (a := 1) (b := 1) (z := 0) (by rfl) (by rfl) (by decide +kernel) (by decide +kernel) (by decide) ?_
  refine jT_xifT (pcN := 1231) jI_379_1226 rfl (by decide +kernel) rfl ?_
  refine jT_xgoto (pcN := 3740) jI_379_1231 rfl ?_
  refine jT_xiinc (x := 0) (z := 5) (LN := [(5, (0, 5)), (7, (0, 1)), (6, (0, 0)), (4, (4, 3)), (3, (4, 2)), (2, (4, 1)), (1, (4, 0)), (0, (6, 0))]) (pcN := 3743) jI_379_3740 rfl rfl (by decide) rfl rfl ?_
  refine jT_xgoto (pcN := 28) jI_379_3743 rfl ?_
  refine jT_xiload (v := (0, 5)) (pcN := 30) jI_379_28 rfl rfl rfl ?_
  refine jT_xaload_n (v := (6, 0)) (pcN := 31) jI_379_30 rfl rfl rfl ?_
  refine jT_adv 1 (pcN := 32) (LN := [(5, (0, 5)), (7, (0, 1)), (6, (0, 0)), (4, (4, 3)), (3, (4, 2)), (2, (4, 1)), (1, (4, 0)), (0, (6, 0))]) (stN := [(0, 5), (0, 5)]) (hsN := jpA_1927) (c1 := 0) (s1 := 0) (c2 := 0) (s2 := 0) (by exact rfl) ?_ (by omega) (by omega)
  refine jT_xiconst (k := 5) (pcN := 33) jI_379_32 rfl ?_
  refine jT_xisub (x := 5) (y := 5) (z := 0) (pcN := 34) jI_379_33 rfl (by decide) rfl ?_
  refine jT_xicT (pcN := 3746) jI_379_34 rfl (by decide +kernel) rfl ?_
  refine jT_xiconst (k := 1) (pcN := 3747) jI_379_3746 rfl ?_
  exact jT_ret rfl (by decide) (by show 50 ≤ 57; decide) (by omega) (by omega) ⟨rfl, rfl⟩
set_option maxRecDepth 100000 in
theorem jL_11_6 {d : Nat} {x0 x1 x2 x3 x4 : Int} (h_x0 : (-2147483648) ≤ x0 ∧ x0 ≤ 2147483647) (h_x1 : 1 ≤ x1 ∧ x1 ≤ 1) (h_x2 : 1 ≤ x2 ∧ x2 ≤ 2147483647) (h_x3 : (-2147483648) ≤ x3 ∧ x3 ≤ 2147483647) (h_x4 : (-2147483648) ≤ x4 ∧ x4 ≤ 2147483647) : jT [x0, x1, x2, x3, x4] (d + 3) 379 41 1166 [(5, (0, 0)), (4, (4, 3)), (3, (4, 2)), (2, (4, 1)), (1, (4, 0)), (0, (6, 0))] [] jpA_1923 1 6 (fun k v hsN => k = 0 ∧ v = (0, 1)) := by
  refine jT_xaload_n (v := (4, 0)) (pcN := 1167) jI_379_1166 rfl rfl rfl ?_
  refine jT_xaload_n (v := (6, 0)) (pcN := 1168) jI_379_1167 rfl rfl rfl ?_
  refine jT_xiload (v := (0, 0)) (pcN := 1170) jI_379_1168 rfl rfl rfl ?_
  refine jT_xiconst (k := 1) (pcN := 1171) jI_379_1170 rfl ?_
  refine jT_xiadd (x := 0) (y := 1) (z := 1) (pcN := 1172) jI_379_1171 rfl (by decide) rfl ?_
  refine jT_adv 1 (pcN := 1173) (LN := [(5, (0, 0)), (4, (4, 3)), (3, (4, 2)), (2, (4, 1)), (1, (4, 0)), (0, (6, 0))]) (stN := [(0, x1), (4, 0)]) (hsN := jpA_1923) (c1 := 0) (s1 := 0) (c2 := 1) (s2 := 6) (by exact rfl) ?_ (by omega) (by omega)
  refine jT_eq (LN := [(5, (0, 0)), (4, (4, 3)), (3, (4, 2)), (2, (4, 1)), (1, (4, 0)), (0, (6, 0))]) (stN := [(0, 1), (4, 0)]) (hsN := [jzA_265, jzA_266, jgh, jgh, jgh, jgh, jgh, jgh, jgh, jgh, jgh, jgh, jgh, jgh, jzA_322, (100, [], jS0), jgh, jgh, jgh, jgh, jgh, jgh, jgh, jgh, jgh, jgh, jgh, jgh, jgh, jgh, jgh, (117, [], [35, 36, 37, 38]), jgh, jgh, jgh, jgh, (7, [(4, 39), (4, (-1)), (4, (-1))], []), jgh, jgh, (114, [], [40]), jgh]) (rfl) (by simp only [List.cons.injEq, Prod.mk.injEq, and_true, true_and] <;> ((try unfold jw); (try unfold jwl); omega)) (rfl) ?_
  refine jT_xaload_n (v := (6, 0)) (pcN := 1174) jI_379_1173 rfl rfl rfl ?_
  refine jT_xiload (v := (0, 0)) (pcN := 1176) jI_379_1174 rfl rfl rfl ?_
  refine jT_xiconst (k := 2) (pcN := 1177) jI_379_1176 rfl ?_
  refine jT_xiadd (x := 0) (y := 2) (z := 2) (pcN := 1178) jI_379_1177 rfl (by decide) rfl ?_
  refine jT_adv 1 (pcN := 1179) (LN := [(5, (0, 0)), (4, (4, 3)), (3, (4, 2)), (2, (4, 1)), (1, (4, 0)), (0, (6, 0))]) (stN := [(0, x2), (0, 1), (4, 0)]) (hsN := jpA_1923) (c1 := 0) (s1 := 0) (c2 := 1) (s2 := 6) (by exact rfl) ?_ (by omega) (by omega)
  refine jT_xaload_n (v := (4, 2)) (pcN := 1180) jI_379_1179 rfl rfl rfl ?_
  refine jT_fR [0, 2, 4, 5, 6, 7, 8, 9, 10, 11, 12, 13, 14, 30, 31, 32, 33, 34, 35, 36, 37, 38, 39, 40] 41 (y := 337) (pcN := 1183) (dC := 2) (bc1 := 1) (bc2 := 6) (c1 := 0) (c2 := 0) (as := [(4, 0), (0, 1), (0, x2), (4, 2)]) (asC := [(4, 0), (0, 1), (0, x2), (4, 1)]) (LN := [(5, (0, 0)), (4, (4, 3)), (3, (4, 2)), (2, (4, 1)), (1, (4, 0)), (0, (6, 0))]) (stN := []) (hsC := jpA_1846) (v := (0, 1)) (st2 := [(0, 1)]) (jA_337_469 (d := 0) (by omega)) (by rfl) (by rfl) (by decide +kernel) (by rfl) (by rfl) (by omega) (by omega) (by omega) (by omega) rfl ?_
  refine jT_xistore (v := (0, 1)) (LN := [(6, (0, 1)), (5, (0, 0)), (4, (4, 3)), (3, (4, 2)), (2, (4, 1)), (1, (4, 0)), (0, (6, 0))]) (pcN := 1185) jI_379_1183 rfl rfl rfl rfl ?_
  refine jT_xaload_n (v := (4, 1)) (pcN := 1186) jI_379_1185 rfl rfl rfl ?_
  refine jT_xaload_n (v := (6, 0)) (pcN := 1187) jI_379_1186 rfl rfl rfl ?_
  refine jT_xiload (v := (0, 0)) (pcN := 1189) jI_379_1187 rfl rfl rfl ?_
  refine jT_xiconst (k := 1) (pcN := 1190) jI_379_1189 rfl ?_
  refine jT_xiadd (x := 0) (y := 1) (z := 1) (pcN := 1191) jI_379_1190 rfl (by decide) rfl ?_
  refine jT_adv 1 (pcN := 1192) (LN := [(6, (0, 1)), (5, (0, 0)), (4, (4, 3)), (3, (4, 2)), (2, (4, 1)), (1, (4, 0)), (0, (6, 0))]) (stN := [(0, x1), (4, 1)]) (hsN := jpA_1923) (c1 := 0) (s1 := 0) (c2 := 0) (s2 := 0) (by exact rfl) ?_ (by omega) (by omega)
  refine jT_eq (LN := [(6, (0, 1)), (5, (0, 0)), (4, (4, 3)), (3, (4, 2)), (2, (4, 1)), (1, (4, 0)), (0, (6, 0))]) (stN := [(0, 1), (4, 1)]) (hsN := [jzA_265, jzA_266, jgh, jgh, jgh, jgh, jgh, jgh, jgh, jgh, jgh, jgh, jgh, jgh, jzA_322, (100, [], jS0), jgh, jgh, jgh, jgh, jgh, jgh, jgh, jgh, jgh, jgh, jgh, jgh, jgh, jgh, jgh, (117, [], [35, 36, 37, 38]), jgh, jgh, jgh, jgh, (7, [(4, 39), (4, (-1)), (4, (-1))], []), jgh, jgh, (114, [], [40]), jgh]) (rfl) (by simp only [List.cons.injEq, Prod.mk.injEq, and_true, true_and] <;> ((try unfold jw); (try unfold jwl); omega)) (rfl) ?_
  refine jT_xaload_n (v := (6, 0)) (pcN := 1193) jI_379_1192 rfl rfl rfl ?_
  refine jT_xiload (v := (0, 0)) (pcN := 1195) jI_379_1193 rfl rfl rfl ?_
  refine jT_xiconst (k := 2) (pcN := 1196) jI_379_1195 rfl ?_
  refine jT_xiadd (x := 0) (y := 2) (z := 2) (pcN := 1197) jI_379_1196 rfl (by decide) rfl ?_
  refine jT_adv 1 (pcN := 1198) (LN := [(6, (0, 1)), (5, (0, 0)), (4, (4, 3)), (3, (4, 2)), (2, (4, 1)), (1, (4, 0)), (0, (6, 0))]) (stN := [(0, x2), (0, 1), (4, 1)]) (hsN := jpA_1923) (c1 := 0) (s1 := 0) (c2 := 0) (s2 := 0) (by exact rfl) ?_ (by omega) (by omega)
  refine jT_fB [1, 15, 16, 17, 18, 19, 20, 21, 22, 23, 24, 25, 26, 27, 28, 29] 41 (y := 246) (pcN := 1201) (dC := 2) (bc1 := 0) (bc2 := 0) (c1 := 0) (c2 := 0) (as := [(4, 1), (0, 1), (0, x2)]) (asC := [(4, 0), (0, 1), (0, x2)]) (LN := [(6, (0, 1)), (5, (0, 0)), (4, (4, 3)), (3, (4, 2)), (2, (4, 1)), (1, (4, 0)), (0, (6, 0))]) (stN := []) (hsC := jpA_1519) (hsD := jpA_1820) (v := (0, 0)) (st2 := [(0, 0)]) (hs2 := jpA_1924) (jA_246_471 (d := 0) (by omega)) (by rfl) (by rfl) (by decide +kernel) (by rfl) (by rfl) (by omega) (by omega) (by omega) (by omega) rfl (by decide +kernel) ?_
  refine jT_xistore (v := (0, 0)) (LN := [(7, (0, 0)), (6, (0, 1)), (5, (0, 0)), (4, (4, 3)), (3, (4, 2)), (2, (4, 1)), (1, (4, 0)), (0, (6, 0))]) (pcN := 1203) jI_379_1201 rfl rfl rfl rfl ?_
  refine jT_xaload_n (v := (4, 1)) (pcN := 1204) jI_379_1203 rfl rfl rfl ?_
  refine jT_fR [1, 15, 16, 17, 18, 19, 20, 21, 22, 23, 24, 25, 26, 27, 28, 29] 41 (y := 186) (pcN := 1207) (dC := 0) (bc1 := 0) (bc2 := 0) (c1 := 0) (c2 := 0) (as := [(4, 1)]) (asC := [(4, 0)]) (LN := [(7, (0, 0)), (6, (0, 1)), (5, (0, 0)), (4, (4, 3)), (3, (4, 2)), (2, (4, 1)), (1, (4, 0)), (0, (6, 0))]) (stN := []) (hsC := jpA_20) (v := (0, 1)) (st2 := [(0, 1)]) (jA_186_8 (d := 0)) (by rfl) (by rfl) (by decide +kernel) (by rfl) (by rfl) (by omega) (by omega) (by omega) (by omega) rfl ?_
  refine jT_xiload (v := (0, 1)) (pcN := 1209) jI_379_1207 rfl rfl rfl ?_
  refine jT_xicT (pcN := 1214) jI_379_1209 rfl (by decide +kernel) rfl ?_
  refine jT_xiload (v := (0, 1)) (pcN := 1216) jI_379_1214 rfl rfl rfl ?_
  refine jT_xifT (pcN := 1231) jI_379_1216 rfl (by decide +kernel) rfl ?_
  refine jT_xgoto (pcN := 3740) jI_379_1231 rfl ?_
  refine jT_xiinc (x := 0) (z := 5) (LN := [(5, (0, 5)), (7, (0, 0)), (6, (0, 1)), (4, (4, 3)), (3, (4, 2)), (2, (4, 1)), (1, (4, 0)), (0, (6, 0))]) (pcN := 3743) jI_379_3740 rfl rfl (by decide) rfl rfl ?_
  refine jT_xgoto (pcN := 28) jI_379_3743 rfl ?_
  refine jT_xiload (v := (0, 5)) (pcN := 30) jI_379_28 rfl rfl rfl ?_
  refine jT_xaload_n (v := (6, 0)) (pcN := 31) jI_379_30 rfl rfl rfl ?_
  refine jT_adv 1 (pcN := 32) (LN := [(5, (0, 5)), (7, (0, 0)), (6, (0, 1)), (4, (4, 3)), (3, (4, 2)), (2, (4, 1)), (1, (4, 0)), (0, (6, 0))]) (stN := [(0, 5), (0, 5)]) (hsN := jpA_1924) (c1 := 0) (s1 := 0) (c2 := 0) (s2 := 0) (by exact rfl) ?_ (by omega) (by omega)
  refine jT_xiconst (k := 5) (pcN := 33) jI_379_32 rfl ?_
  refine jT_xisub (x := 5) (y := 5) (z := 0) (pcN := 34) jI_379_33 rfl (by decide) rfl ?_
  refine jT_xicT (pcN := 3746) jI_379_34 rfl (by decide +kernel) rfl ?_
  refine jT_xiconst (k := 1) (pcN := 3747) jI_379_3746 rfl ?_
  exact jT_ret rfl (by decide) (by show 41 ≤ 41; decide) (by omega) (by omega) ⟨rfl, rfl⟩
def jpA_1928 : List JC := [jzA_265, jzA_266, jgh, jgh, jgh, jgh, jgh, jgh, jgh, jgh, jgh, jgh, jgh, jgh, jzA_322, (100, [], jS0), jgh, jgh, jgh, jgh, jgh, jgh, jgh, jgh, jgh, jgh, jgh, jgh, jgh, jgh, jgh, (117, [], [35, 36, 37, 38]), jgh, jgh, jgh, jgh, jgh, (7, [(4, 39), (4, (-1)), (4, (-1))], []), jgh, (114, [], [40]), jgh]
def jpA_1929 : List JC := [jzA_265, jzA_305, jgh, jgh, jgh, jgh, jgh, jgh, jgh, jgh, jgh, jgh, jgh, jgh, jzA_322, (100, [], jS0), jgh, jgh, jgh, jgh, jgh, jgh, jgh, jgh, jgh, jgh, jgh, jgh, jgh, jgh, jgh, (117, [], [35, 36, 37, 38]), jgh, jgh, jgh, jgh, jgh, (7, [(4, 39), (4, (-1)), (4, (-1))], []), jgh, (114, [], [40]), jgh]
set_option maxRecDepth 100000 in
theorem jL_11_7 {d : Nat} {x0 x1 x2 x3 x4 : Int} (h_x0 : (-2147483648) ≤ x0 ∧ x0 ≤ 2147483647) (h_x1 : 2 ≤ x1 ∧ x1 ≤ 2) (h_x2 : (-2147483648) ≤ x2 ∧ x2 ≤ (-1)) (h_x3 : (-2147483648) ≤ x3 ∧ x3 ≤ 2147483647) (h_x4 : (-2147483648) ≤ x4 ∧ x4 ≤ 2147483647) : jT [x0, x1, x2, x3, x4] (d + 3) 379 41 1166 [(5, (0, 0)), (4, (4, 3)), (3, (4, 2)), (2, (4, 1)), (1, (4, 0)), (0, (6, 0))] [] jpA_1928 1 6 (fun k v hsN => k = 0 ∧ v = (0, 1)) := by
  refine jT_xaload_n (v := (4, 0)) (pcN := 1167) jI_379_1166 rfl rfl rfl ?_
  refine jT_xaload_n (v := (6, 0)) (pcN := 1168) jI_379_1167 rfl rfl rfl ?_
  refine jT_xiload (v := (0, 0)) (pcN := 1170) jI_379_1168 rfl rfl rfl ?_
  refine jT_xiconst (k := 1) (pcN := 1171) jI_379_1170 rfl ?_
  refine jT_xiadd (x := 0) (y := 1) (z := 1) (pcN := 1172) jI_379_1171 rfl (by decide) rfl ?_
  refine jT_adv 1 (pcN := 1173) (LN := [(5, (0, 0)), (4, (4, 3)), (3, (4, 2)), (2, (4, 1)), (1, (4, 0)), (0, (6, 0))]) (stN := [(0, x1), (4, 0)]) (hsN := jpA_1928) (c1 := 0) (s1 := 0) (c2 := 1) (s2 := 6) (by exact rfl) ?_ (by omega) (by omega)
  refine jT_eq (LN := [(5, (0, 0)), (4, (4, 3)), (3, (4, 2)), (2, (4, 1)), (1, (4, 0)), (0, (6, 0))]) (stN := [(0, 2), (4, 0)]) (hsN := [jzA_265, jzA_266, jgh, jgh, jgh, jgh, jgh, jgh, jgh, jgh, jgh, jgh, jgh, jgh, jzA_322, (100, [], jS0), jgh, jgh, jgh, jgh, jgh, jgh, jgh, jgh, jgh, jgh, jgh, jgh, jgh, jgh, jgh, (117, [], [35, 36, 37, 38]), jgh, jgh, jgh, jgh, jgh, (7, [(4, 39), (4, (-1)), (4, (-1))], []), jgh, (114, [], [40]), jgh]) (rfl) (by simp only [List.cons.injEq, Prod.mk.injEq, and_true, true_and] <;> ((try unfold jw); (try unfold jwl); omega)) (rfl) ?_
  refine jT_xaload_n (v := (6, 0)) (pcN := 1174) jI_379_1173 rfl rfl rfl ?_
  refine jT_xiload (v := (0, 0)) (pcN := 1176) jI_379_1174 rfl rfl rfl ?_
  refine jT_xiconst (k := 2) (pcN := 1177) jI_379_1176 rfl ?_
  refine jT_xiadd (x := 0) (y := 2) (z := 2) (pcN := 1178) jI_379_1177 rfl (by decide) rfl ?_
  refine jT_adv 1 (pcN := 1179) (LN := [(5, (0, 0)), (4, (4, 3)), (3, (4, 2)), (2, (4, 1)), (1, (4, 0)), (0, (6, 0))]) (stN := [(0, x2), (0, 2), (4, 0)]) (hsN := jpA_1928) (c1 := 0) (s1 := 0) (c2 := 1) (s2 := 6) (by exact rfl) ?_ (by omega) (by omega)
  refine jT_xaload_n (v := (4, 2)) (pcN := 1180) jI_379_1179 rfl rfl rfl ?_
  refine jT_fR [0, 2, 4, 5, 6, 7, 8, 9, 10, 11, 12, 13, 14, 30, 31, 32, 33, 34, 35, 36, 37, 38, 39, 40] 41 (y := 337) (pcN := 1183) (dC := 2) (bc1 := 1) (bc2 := 6) (c1 := 0) (c2 := 0) (as := [(4, 0), (0, 2), (0, x2), (4, 2)]) (asC := [(4, 0), (0, 2), (0, x2), (4, 1)]) (LN := [(5, (0, 0)), (4, (4, 3)), (3, (4, 2)), (2, (4, 1)), (1, (4, 0)), (0, (6, 0))]) (stN := []) (hsC := jpA_1859) (v := (0, 1)) (st2 := [(0, 1)]) (jA_337_473 (d := 0) (by omega)) (by rfl) (by rfl) (by decide +kernel) (by rfl) (by rfl) (by omega) (by omega) (by omega) (by omega) rfl ?_
  refine jT_xistore (v := (0, 1)) (LN := [(6, (0, 1)), (5, (0, 0)), (4, (4, 3)), (3, (4, 2)), (2, (4, 1)), (1, (4, 0)), (0, (6, 0))]) (pcN := 1185) jI_379_1183 rfl rfl rfl rfl ?_
  refine jT_xaload_n (v := (4, 1)) (pcN := 1186) jI_379_1185 rfl rfl rfl ?_
  refine jT_xaload_n (v := (6, 0)) (pcN := 1187) jI_379_1186 rfl rfl rfl ?_
  refine jT_xiload (v := (0, 0)) (pcN := 1189) jI_379_1187 rfl rfl rfl ?_
  refine jT_xiconst (k := 1) (pcN := 1190) jI_379_1189 rfl ?_
  refine jT_xiadd (x := 0) (y := 1) (z := 1) (pcN := 1191) jI_379_1190 rfl (by decide) rfl ?_
  refine jT_adv 1 (pcN := 1192) (LN := [(6, (0, 1)), (5, (0, 0)), (4, (4, 3)), (3, (4, 2)), (2, (4, 1)), (1, (4, 0)), (0, (6, 0))]) (stN := [(0, x1), (4, 1)]) (hsN := jpA_1928) (c1 := 0) (s1 := 0) (c2 := 0) (s2 := 0) (by exact rfl) ?_ (by omega) (by omega)
  refine jT_eq (LN := [(6, (0, 1)), (5, (0, 0)), (4, (4, 3)), (3, (4, 2)), (2, (4, 1)), (1, (4, 0)), (0, (6, 0))]) (stN := [(0, 2), (4, 1)]) (hsN := [jzA_265, jzA_266, jgh, jgh, jgh, jgh, jgh, jgh, jgh, jgh, jgh, jgh, jgh, jgh, jzA_322, (100, [], jS0), jgh, jgh, jgh, jgh, jgh, jgh, jgh, jgh, jgh, jgh, jgh, jgh, jgh, jgh, jgh, (117, [], [35, 36, 37, 38]), jgh, jgh, jgh, jgh, jgh, (7, [(4, 39), (4, (-1)), (4, (-1))], []), jgh, (114, [], [40]), jgh]) (rfl) (by simp only [List.cons.injEq, Prod.mk.injEq, and_true, true_and] <;> ((try unfold jw); (try unfold jwl); omega)) (rfl) ?_
  refine jT_xaload_n (v := (6, 0)) (pcN := 1193) jI_379_1192 rfl rfl rfl ?_
  refine jT_xiload (v := (0, 0)) (pcN := 1195) jI_379_1193 rfl rfl rfl ?_
  refine jT_xiconst (k := 2) (pcN := 1196) jI_379_1195 rfl ?_
  refine jT_xiadd (x := 0) (y := 2) (z := 2) (pcN := 1197) jI_379_1196 rfl (by decide) rfl ?_
  refine jT_adv 1 (pcN := 1198) (LN := [(6, (0, 1)), (5, (0, 0)), (4, (4, 3)), (3, (4, 2)), (2, (4, 1)), (1, (4, 0)), (0, (6, 0))]) (stN := [(0, x2), (0, 2), (4, 1)]) (hsN := jpA_1928) (c1 := 0) (s1 := 0) (c2 := 0) (s2 := 0) (by exact rfl) ?_ (by omega) (by omega)
  refine jT_fB [1, 15, 16, 17, 18, 19, 20, 21, 22, 23, 24, 25, 26, 27, 28, 29] 41 (y := 246) (pcN := 1201) (dC := 2) (bc1 := 0) (bc2 := 0) (c1 := 0) (c2 := 0) (as := [(4, 1), (0, 2), (0, x2)]) (asC := [(4, 0), (0, 2), (0, x2)]) (LN := [(6, (0, 1)), (5, (0, 0)), (4, (4, 3)), (3, (4, 2)), (2, (4, 1)), (1, (4, 0)), (0, (6, 0))]) (stN := []) (hsC := jpA_1519) (hsD := jpA_1820) (v := (0, 0)) (st2 := [(0, 0)]) (hs2 := jpA_1929) (jA_246_475 (d := 0) (by omega)) (by rfl) (by rfl) (by decide +kernel) (by rfl) (by rfl) (by omega) (by omega) (by omega) (by omega) rfl (by decide +kernel) ?_
  refine jT_xistore (v := (0, 0)) (LN := [(7, (0, 0)), (6, (0, 1)), (5, (0, 0)), (4, (4, 3)), (3, (4, 2)), (2, (4, 1)), (1, (4, 0)), (0, (6, 0))]) (pcN := 1203) jI_379_1201 rfl rfl rfl rfl ?_
  refine jT_xaload_n (v := (4, 1)) (pcN := 1204) jI_379_1203 rfl rfl rfl ?_
  refine jT_fR [1, 15, 16, 17, 18, 19, 20, 21, 22, 23, 24, 25, 26, 27, 28, 29] 41 (y := 186) (pcN := 1207) (dC := 0) (bc1 := 0) (bc2 := 0) (c1 := 0) (c2 := 0) (as := [(4, 1)]) (asC := [(4, 0)]) (LN := [(7, (0, 0)), (6, (0, 1)), (5, (0, 0)), (4, (4, 3)), (3, (4, 2)), (2, (4, 1)), (1, (4, 0)), (0, (6, 0))]) (stN := []) (hsC := jpA_20) (v := (0, 1)) (st2 := [(0, 1)]) (jA_186_8 (d := 0)) (by rfl) (by rfl) (by decide +kernel) (by rfl) (by rfl) (by omega) (by omega) (by omega) (by omega) rfl ?_
  refine jT_xiload (v := (0, 1)) (pcN := 1209) jI_379_1207 rfl rfl rfl ?_
  refine jT_xicT (pcN := 1214) jI_379_1209 rfl (by decide +kernel) rfl ?_
  refine jT_xiload (v := (0, 1)) (pcN := 1216) jI_379_1214 rfl rfl rfl ?_
  refine jT_xifT (pcN := 1231) jI_379_1216 rfl (by decide +kernel) rfl ?_
  refine jT_xgoto (pcN := 3740) jI_379_1231 rfl ?_
  refine jT_xiinc (x := 0) (z := 5) (LN := [(5, (0, 5)), (7, (0, 0)), (6, (0, 1)), (4, (4, 3)), (3, (4, 2)), (2, (4, 1)), (1, (4, 0)), (0, (6, 0))]) (pcN := 3743) jI_379_3740 rfl rfl (by decide) rfl rfl ?_
  refine jT_xgoto (pcN := 28) jI_379_3743 rfl ?_
  refine jT_xiload (v := (0, 5)) (pcN := 30) jI_379_28 rfl rfl rfl ?_
  refine jT_xaload_n (v := (6, 0)) (pcN := 31) jI_379_30 rfl rfl rfl ?_
  refine jT_adv 1 (pcN := 32) (LN := [(5, (0, 5)), (7, (0, 0)), (6, (0, 1)), (4, (4, 3)), (3, (4, 2)), (2, (4, 1)), (1, (4, 0)), (0, (6, 0))]) (stN := [(0, 5), (0, 5)]) (hsN := jpA_1929) (c1 := 0) (s1 := 0) (c2 := 0) (s2 := 0) (by exact rfl) ?_ (by omega) (by omega)
  refine jT_xiconst (k := 5) (pcN := 33) jI_379_32 rfl ?_
  refine jT_xisub (x := 5) (y := 5) (z := 0) (pcN := 34) jI_379_33 rfl (by decide) rfl ?_
  refine jT_xicT (pcN := 3746) jI_379_34 rfl (by decide +kernel) rfl ?_
  refine jT_xiconst (k := 1) (pcN := 3747) jI_379_3746 rfl ?_
  exact jT_ret rfl (by decide) (by show 41 ≤ 41; decide) (by omega) (by omega) ⟨rfl, rfl⟩
def jpA_1930 : List JC := [jzA_265, jzA_266, (101, [], [0]), jgh, jgh, jgh, jgh, jgh, jgh, jgh, jgh, jgh, jgh, jzA_79, jzA_322, (100, [], jS0), (100, [], []), jzA_323, jzA_197, jgh, jgh, (101, [], [0, 0, 0, 0, 0, 0]), (100, [], (List.replicate 1792 0)), jgh, jgh, jgh, jgh, jgh, jgh, jgh, jgh, (117, [], [43, 44, 45, 46]), jgh, jgh, jgh, (100, [], (List.replicate 1613 0)), jgh, jgh, jgh, jgh, jgh, jgh, jgh, jgh, jgh, (7, [(4, 47), (4, (-1)), (4, (-1))], []), jgh, (114, [], [48]), (4, [(4, 49), (1, 1)], []), (101, [], [0, 0, 0, 0, 0, 0])]
def jpA_1931 : List JC := [jzA_725, jzA_266, (101, [], [1]), jgh, jgh, jgh, jgh, jgh, jgh, jgh, jgh, jgh, jgh, jzA_327, jzA_322, (100, [], jS0), (100, [], []), jzA_323, jzA_197, jgh, jgh, (101, [], [0, 0, 0, 0, 0, 0]), (100, [], (List.replicate 1792 0)), jgh, jgh, jgh, jgh, jgh, jgh, jgh, jgh, (117, [], [43, 44, 45, 46]), jgh, jgh, jgh, (100, [], (List.replicate 1613 0)), jgh, jgh, jgh, jgh, jgh, jgh, jgh, jgh, jgh, (7, [(4, 47), (4, (-1)), (4, (-1))], []), jgh, (114, [], [48]), (4, [(4, 49), (1, 1)], []), (101, [], [0, 0, 0, 0, 0, 0]), (114, [], [52]), (101, [], [0, 0, 0, 0, 0, 0]), (4, [(4, 51), (1, 1)], []), (114, [], [52]), (7, [(4, 53), (4, (-1)), (4, (-1))], []), (117, [], [43, 44, 54, 46]), jzA_1914]
def jpA_1932 : List JC := [jzA_725, jzA_1753, (101, [], [1]), jgh, jgh, jgh, jgh, jgh, jgh, jgh, jgh, jgh, jgh, jzA_327, jzA_322, jzA_1659, (100, [], []), jzA_323, jzA_331, jgh, jgh, (101, [], [0, 0, 0, 0, 0, 0]), jzA_1539, jgh, jgh, jgh, jgh, jgh, jgh, jgh, jgh, (117, [], [43, 44, 45, 46]), jgh, jgh, jgh, (100, [], jS0), jgh, jgh, jgh, jgh, jgh, jgh, jgh, jgh, jgh, (7, [(4, 47), (4, (-1)), (4, (-1))], []), jgh, (114, [], [48]), (4, [(4, 49), (1, 1)], []), (101, [], [0, 0, 0, 0, 0, 0]), (114, [], [52]), (101, [], [0, 0, 0, 0, 0, 0]), (4, [(4, 51), (1, 1)], []), (114, [], [52]), (7, [(4, 53), (4, (-1)), (4, (-1))], []), (117, [], [43, 44, 54, 46]), jzA_1914]
set_option maxRecDepth 100000 in
theorem jL_11_8 {d : Nat} {x0 x1 x2 x3 x4 : Int} (h_x0 : (-2147483648) ≤ x0 ∧ x0 ≤ 2147483647) (h_x1 : 2 ≤ x1 ∧ x1 ≤ 2) (h_x2 : 0 ≤ x2 ∧ x2 ≤ 0) (h_x3 : (-2147483648) ≤ x3 ∧ x3 ≤ 2147483647) (h_x4 : (-2147483648) ≤ x4 ∧ x4 ≤ 2147483647) : jT [x0, x1, x2, x3, x4] (d + 6) 379 50 1166 [(5, (0, 0)), (4, (4, 3)), (3, (4, 2)), (2, (4, 1)), (1, (4, 0)), (0, (6, 0))] [] jpA_1930 7 22 (fun k v hsN => k = 0 ∧ v = (0, 1)) := by
  refine jT_xaload_n (v := (4, 0)) (pcN := 1167) jI_379_1166 rfl rfl rfl ?_
  refine jT_xaload_n (v := (6, 0)) (pcN := 1168) jI_379_1167 rfl rfl rfl ?_
  refine jT_xiload (v := (0, 0)) (pcN := 1170) jI_379_1168 rfl rfl rfl ?_
  refine jT_xiconst (k := 1) (pcN := 1171) jI_379_1170 rfl ?_
  refine jT_xiadd (x := 0) (y := 1) (z := 1) (pcN := 1172) jI_379_1171 rfl (by decide) rfl ?_
  refine jT_adv 1 (pcN := 1173) (LN := [(5, (0, 0)), (4, (4, 3)), (3, (4, 2)), (2, (4, 1)), (1, (4, 0)), (0, (6, 0))]) (stN := [(0, x1), (4, 0)]) (hsN := jpA_1930) (c1 := 0) (s1 := 0) (c2 := 7) (s2 := 22) (by exact rfl) ?_ (by omega) (by omega)
  refine jT_eq (LN := [(5, (0, 0)), (4, (4, 3)), (3, (4, 2)), (2, (4, 1)), (1, (4, 0)), (0, (6, 0))]) (stN := [(0, 2), (4, 0)]) (hsN := [jzA_265, jzA_266, (101, [], [0]), jgh, jgh, jgh, jgh, jgh, jgh, jgh, jgh, jgh, jgh, jzA_79, jzA_322, (100, [], jS0), (100, [], []), jzA_323, jzA_197, jgh, jgh, (101, [], [0, 0, 0, 0, 0, 0]), (100, [], (List.replicate 1792 0)), jgh, jgh, jgh, jgh, jgh, jgh, jgh, jgh, (117, [], [43, 44, 45, 46]), jgh, jgh, jgh, (100, [], (List.replicate 1613 0)), jgh, jgh, jgh, jgh, jgh, jgh, jgh, jgh, jgh, (7, [(4, 47), (4, (-1)), (4, (-1))], []), jgh, (114, [], [48]), (4, [(4, 49), (1, 1)], []), (101, [], [0, 0, 0, 0, 0, 0])]) (rfl) (by simp only [List.cons.injEq, Prod.mk.injEq, and_true, true_and] <;> ((try unfold jw); (try unfold jwl); omega)) (rfl) ?_
  refine jT_xaload_n (v := (6, 0)) (pcN := 1174) jI_379_1173 rfl rfl rfl ?_
  refine jT_xiload (v := (0, 0)) (pcN := 1176) jI_379_1174 rfl rfl rfl ?_
  refine jT_xiconst (k := 2) (pcN := 1177) jI_379_1176 rfl ?_
  refine jT_xiadd (x := 0) (y := 2) (z := 2) (pcN := 1178) jI_379_1177 rfl (by decide) rfl ?_
  refine jT_adv 1 (pcN := 1179) (LN := [(5, (0, 0)), (4, (4, 3)), (3, (4, 2)), (2, (4, 1)), (1, (4, 0)), (0, (6, 0))]) (stN := [(0, x2), (0, 2), (4, 0)]) (hsN := jpA_1930) (c1 := 0) (s1 := 0) (c2 := 7) (s2 := 22) (by exact rfl) ?_ (by omega) (by omega)
  refine jT_eq (LN := [(5, (0, 0)), (4, (4, 3)), (3, (4, 2)), (2, (4, 1)), (1, (4, 0)), (0, (6, 0))]) (stN := [(0, 0), (0, 2), (4, 0)]) (hsN := [jzA_265, jzA_266, (101, [], [0]), jgh, jgh, jgh, jgh, jgh, jgh, jgh, jgh, jgh, jgh, jzA_79, jzA_322, (100, [], jS0), (100, [], []), jzA_323, jzA_197, jgh, jgh, (101, [], [0, 0, 0, 0, 0, 0]), (100, [], (List.replicate 1792 0)), jgh, jgh, jgh, jgh, jgh, jgh, jgh, jgh, (117, [], [43, 44, 45, 46]), jgh, jgh, jgh, (100, [], (List.replicate 1613 0)), jgh, jgh, jgh, jgh, jgh, jgh, jgh, jgh, jgh, (7, [(4, 47), (4, (-1)), (4, (-1))], []), jgh, (114, [], [48]), (4, [(4, 49), (1, 1)], []), (101, [], [0, 0, 0, 0, 0, 0])]) (rfl) (by simp only [List.cons.injEq, Prod.mk.injEq, and_true, true_and] <;> ((try unfold jw); (try unfold jwl); omega)) (rfl) ?_
  refine jT_xaload_n (v := (4, 2)) (pcN := 1180) jI_379_1179 rfl rfl rfl ?_
  refine jT_fB [0, 2, 4, 5, 6, 7, 8, 9, 10, 11, 12, 13, 14, 30, 31, 32, 33, 34, 43, 44, 45, 46, 47, 48, 49] 50 (y := 337) (pcN := 1183) (dC := 5) (bc1 := 7) (bc2 := 22) (c1 := 0) (c2 := 0) (as := [(4, 0), (0, 2), (0, 0), (4, 2)]) (asC := [(4, 0), (0, 2), (0, 0), (4, 1)]) (LN := [(5, (0, 0)), (4, (4, 3)), (3, (4, 2)), (2, (4, 1)), (1, (4, 0)), (0, (6, 0))]) (stN := []) (hsC := jpA_1867) (hsD := jpA_1869) (v := (0, 0)) (st2 := [(0, 0)]) (hs2 := jpA_1931) (jA_337_477 (d := 0)) (by rfl) (by rfl) (by decide +kernel) (by rfl) (by rfl) (by omega) (by omega) (by omega) (by omega) rfl (by decide +kernel) ?_
  refine jT_xistore (v := (0, 0)) (LN := [(6, (0, 0)), (5, (0, 0)), (4, (4, 3)), (3, (4, 2)), (2, (4, 1)), (1, (4, 0)), (0, (6, 0))]) (pcN := 1185) jI_379_1183 rfl rfl rfl rfl ?_
  refine jT_xaload_n (v := (4, 1)) (pcN := 1186) jI_379_1185 rfl rfl rfl ?_
  refine jT_xaload_n (v := (6, 0)) (pcN := 1187) jI_379_1186 rfl rfl rfl ?_
  refine jT_xiload (v := (0, 0)) (pcN := 1189) jI_379_1187 rfl rfl rfl ?_
  refine jT_xiconst (k := 1) (pcN := 1190) jI_379_1189 rfl ?_
  refine jT_xiadd (x := 0) (y := 1) (z := 1) (pcN := 1191) jI_379_1190 rfl (by decide) rfl ?_
  refine jT_adv 1 (pcN := 1192) (LN := [(6, (0, 0)), (5, (0, 0)), (4, (4, 3)), (3, (4, 2)), (2, (4, 1)), (1, (4, 0)), (0, (6, 0))]) (stN := [(0, x1), (4, 1)]) (hsN := jpA_1931) (c1 := 0) (s1 := 0) (c2 := 0) (s2 := 0) (by exact rfl) ?_ (by omega) (by omega)
  refine jT_eq (LN := [(6, (0, 0)), (5, (0, 0)), (4, (4, 3)), (3, (4, 2)), (2, (4, 1)), (1, (4, 0)), (0, (6, 0))]) (stN := [(0, 2), (4, 1)]) (hsN := [jzA_725, jzA_266, (101, [], [1]), jgh, jgh, jgh, jgh, jgh, jgh, jgh, jgh, jgh, jgh, jzA_327, jzA_322, (100, [], jS0), (100, [], []), jzA_323, jzA_197, jgh, jgh, (101, [], [0, 0, 0, 0, 0, 0]), (100, [], (List.replicate 1792 0)), jgh, jgh, jgh, jgh, jgh, jgh, jgh, jgh, (117, [], [43, 44, 45, 46]), jgh, jgh, jgh, (100, [], (List.replicate 1613 0)), jgh, jgh, jgh, jgh, jgh, jgh, jgh, jgh, jgh, (7, [(4, 47), (4, (-1)), (4, (-1))], []), jgh, (114, [], [48]), (4, [(4, 49), (1, 1)], []), (101, [], [0, 0, 0, 0, 0, 0]), (114, [], [52]), (101, [], [0, 0, 0, 0, 0, 0]), (4, [(4, 51), (1, 1)], []), (114, [], [52]), (7, [(4, 53), (4, (-1)), (4, (-1))], []), (117, [], [43, 44, 54, 46]), jzA_1914]) (rfl) (by simp only [List.cons.injEq, Prod.mk.injEq, and_true, true_and] <;> ((try unfold jw); (try unfold jwl); omega)) (rfl) ?_
  refine jT_xaload_n (v := (6, 0)) (pcN := 1193) jI_379_1192 rfl rfl rfl ?_
  refine jT_xiload (v := (0, 0)) (pcN := 1195) jI_379_1193 rfl rfl rfl ?_
  refine jT_xiconst (k := 2) (pcN := 1196) jI_379_1195 rfl ?_
  refine jT_xiadd (x := 0) (y := 2) (z := 2) (pcN := 1197) jI_379_1196 rfl (by decide) rfl ?_
  refine jT_adv 1 (pcN := 1198) (LN := [(6, (0, 0)), (5, (0, 0)), (4, (4, 3)), (3, (4, 2)), (2, (4, 1)), (1, (4, 0)), (0, (6, 0))]) (stN := [(0, x2), (0, 2), (4, 1)]) (hsN := jpA_1931) (c1 := 0) (s1 := 0) (c2 := 0) (s2 := 0) (by exact rfl) ?_ (by omega) (by omega)
  refine jT_eq (LN := [(6, (0, 0)), (5, (0, 0)), (4, (4, 3)), (3, (4, 2)), (2, (4, 1)), (1, (4, 0)), (0, (6, 0))]) (stN := [(0, 0), (0, 2), (4, 1)]) (hsN := [jzA_725, jzA_266, (101, [], [1]), jgh, jgh, jgh, jgh, jgh, jgh, jgh, jgh, jgh, jgh, jzA_327, jzA_322, (100, [], jS0), (100, [], []), jzA_323, jzA_197, jgh, jgh, (101, [], [0, 0, 0, 0, 0, 0]), (100, [], (List.replicate 1792 0)), jgh, jgh, jgh, jgh, jgh, jgh, jgh, jgh, (117, [], [43, 44, 45, 46]), jgh, jgh, jgh, (100, [], (List.replicate 1613 0)), jgh, jgh, jgh, jgh, jgh, jgh, jgh, jgh, jgh, (7, [(4, 47), (4, (-1)), (4, (-1))], []), jgh, (114, [], [48]), (4, [(4, 49), (1, 1)], []), (101, [], [0, 0, 0, 0, 0, 0]), (114, [], [52]), (101, [], [0, 0, 0, 0, 0, 0]), (4, [(4, 51), (1, 1)], []), (114, [], [52]), (7, [(4, 53), (4, (-1)), (4, (-1))], []), (117, [], [43, 44, 54, 46]), jzA_1914]) (rfl) (by simp only [List.cons.injEq, Prod.mk.injEq, and_true, true_and] <;> ((try unfold jw); (try unfold jwl); omega)) (rfl) ?_
  refine jT_fB [1, 15, 16, 17, 18, 19, 20, 21, 22, 23, 24, 25, 26, 27, 28, 29, 35, 36, 37, 38, 39, 40, 41, 42] 57 (y := 246) (pcN := 1201) (dC := 4) (bc1 := 0) (bc2 := 0) (c1 := 0) (c2 := 0) (as := [(4, 1), (0, 2), (0, 0)]) (asC := [(4, 0), (0, 2), (0, 0)]) (LN := [(6, (0, 0)), (5, (0, 0)), (4, (4, 3)), (3, (4, 2)), (2, (4, 1)), (1, (4, 0)), (0, (6, 0))]) (stN := []) (hsC := jpA_1842) (hsD := jpA_1870) (v := (0, 1)) (st2 := [(0, 1)]) (hs2 := jpA_1932) (jA_246_481 (d := 0)) (by rfl) (by rfl) (by decide +kernel) (by rfl) (by rfl) (by omega) (by omega) (by omega) (by omega) rfl (by decide +kernel) ?_
  refine jT_xistore (v := (0, 1)) (LN := [(7, (0, 1)), (6, (0, 0)), (5, (0, 0)), (4, (4, 3)), (3, (4, 2)), (2, (4, 1)), (1, (4, 0)), (0, (6, 0))]) (pcN := 1203) jI_379_1201 rfl rfl rfl rfl ?_
  refine jT_xaload_n (v := (4, 1)) (pcN := 1204) jI_379_1203 rfl rfl rfl ?_
  refine jT_fR [1, 15, 16, 17, 18, 19, 20, 21, 22, 23, 24, 25, 26, 27, 28, 29] 57 (y := 186) (pcN := 1207) (dC := 0) (bc1 := 0) (bc2 := 0) (c1 := 0) (c2 := 0) (as := [(4, 1)]) (asC := [(4, 0)]) (LN := [(7, (0, 1)), (6, (0, 0)), (5, (0, 0)), (4, (4, 3)), (3, (4, 2)), (2, (4, 1)), (1, (4, 0)), (0, (6, 0))]) (stN := []) (hsC := jpA_1633) (v := (0, 0)) (st2 := [(0, 0)]) (jA_186_355 (d := 0)) (by rfl) (by rfl) (by decide +kernel) (by rfl) (by rfl) (by omega) (by omega) (by omega) (by omega) rfl ?_
  refine jT_xiload (v := (0, 0)) (pcN := 1209) jI_379_1207 rfl rfl rfl ?_
  refine jT_xicT (pcN := 1214) jI_379_1209 rfl (by decide +kernel) rfl ?_
  refine jT_xiload (v := (0, 0)) (pcN := 1216) jI_379_1214 rfl rfl rfl ?_
  refine jT_xifF (t := 1231) (pcN := 1219) jI_379_1216 rfl (by decide +kernel) rfl rfl ?_
  refine jT_xaload_n (v := (4, 2)) (pcN := 1220) jI_379_1219 rfl rfl rfl ?_
  refine jT_xiconst (k := 0) (pcN := 1221) jI_379_1220 rfl ?_
  refine jT_lald (x := 1) (a := 2) (j := 0) (fs := []) (X := [1]) jI_379_1221 rfl rfl rfl rfl ?_
  refine jT_eq (LN := [(7, (0, 1)), (6, (0, 0)), (5, (0, 0)), (4, (4, 3)), (3, (4, 2)), (2, (4, 1)), (1, (4, 0)), (0, (6, 0))]) (stN := [(1, 1)]) (hsN := jpA_1932) rfl rfl rfl ?_
  refine jT_xiload (v := (0, 1)) (pcN := 1224) jI_379_1222 rfl rfl rfl ?_
  refine jT_xi2l (x := 1) (z := 1) (pcN := 1225) jI_379_1224 rfl (by decide +kernel) rfl ?_
  refine jT_lcmp (a := 1) (b := 1) (z := 0) (by rfl) (by rfl) (by decide +kernel) (by decide +kernel) (by decide) ?_
  refine jT_xifT (pcN := 1231) jI_379_1226 rfl (by decide +kernel) rfl ?_
  refine jT_xgoto (pcN := 3740) jI_379_1231 rfl ?_
  refine jT_xiinc (x := 0) (z := 5) (LN := [(5, (0, 5)), (7, (0, 1)), (6, (0, 0)), (4, (4, 3)), (3, (4, 2)), (2, (4, 1)), (1, (4, 0)), (0, (6, 0))]) (pcN := 3743) jI_379_3740 rfl rfl (by decide) rfl rfl ?_
  refine jT_xgoto (pcN := 28) jI_379_3743 rfl ?_
  refine jT_xiload (v := (0, 5)) (pcN := 30) jI_379_28 rfl rfl rfl ?_
  refine jT_xaload_n (v := (6, 0)) (pcN := 31) jI_379_30 rfl rfl rfl ?_
  refine jT_adv 1 (pcN := 32) (LN := [(5, (0, 5)), (7, (0, 1)), (6, (0, 0)), (4, (4, 3)), (3, (4, 2)), (2, (4, 1)), (1, (4, 0)), (0, (6, 0))]) (stN := [(0, 5), (0, 5)]) (hsN := jpA_1932) (c1 := 0) (s1 := 0) (c2 := 0) (s2 := 0) (by exact rfl) ?_ (by omega) (by omega)
  refine jT_xiconst (k := 5) (pcN := 33) jI_379_32 rfl ?_
  refine jT_xisub (x := 5) (y := 5) (z := 0) (pcN := 34) jI_379_33 rfl (by decide) rfl ?_
  refine jT_xicT (pcN := 3746) jI_379_34 rfl (by decide +kernel) rfl ?_
  refine jT_xiconst (k := 1) (pcN := 3747) jI_379_3746 rfl ?_
  exact jT_ret rfl (by decide) (by show 50 ≤ 57; decide) (by omega) (by omega) ⟨rfl, rfl⟩
set_option maxRecDepth 100000 in
theorem jL_11_9 {d : Nat} {x0 x1 x2 x3 x4 : Int} (h_x0 : (-2147483648) ≤ x0 ∧ x0 ≤ 2147483647) (h_x1 : 2 ≤ x1 ∧ x1 ≤ 2) (h_x2 : 1 ≤ x2 ∧ x2 ≤ 2147483647) (h_x3 : (-2147483648) ≤ x3 ∧ x3 ≤ 2147483647) (h_x4 : (-2147483648) ≤ x4 ∧ x4 ≤ 2147483647) : jT [x0, x1, x2, x3, x4] (d + 3) 379 41 1166 [(5, (0, 0)), (4, (4, 3)), (3, (4, 2)), (2, (4, 1)), (1, (4, 0)), (0, (6, 0))] [] jpA_1928 1 6 (fun k v hsN => k = 0 ∧ v = (0, 1)) := by
  refine jT_xaload_n (v := (4, 0)) (pcN := 1167) jI_379_1166 rfl rfl rfl ?_
  refine jT_xaload_n (v := (6, 0)) (pcN := 1168) jI_379_1167 rfl rfl rfl ?_
  refine jT_xiload (v := (0, 0)) (pcN := 1170) jI_379_1168 rfl rfl rfl ?_
  refine jT_xiconst (k := 1) (pcN := 1171) jI_379_1170 rfl ?_
  refine jT_xiadd (x := 0) (y := 1) (z := 1) (pcN := 1172) jI_379_1171 rfl (by decide) rfl ?_
  refine jT_adv 1 (pcN := 1173) (LN := [(5, (0, 0)), (4, (4, 3)), (3, (4, 2)), (2, (4, 1)), (1, (4, 0)), (0, (6, 0))]) (stN := [(0, x1), (4, 0)]) (hsN := jpA_1928) (c1 := 0) (s1 := 0) (c2 := 1) (s2 := 6) (by exact rfl) ?_ (by omega) (by omega)
  refine jT_eq (LN := [(5, (0, 0)), (4, (4, 3)), (3, (4, 2)), (2, (4, 1)), (1, (4, 0)), (0, (6, 0))]) (stN := [(0, 2), (4, 0)]) (hsN := [jzA_265, jzA_266, jgh, jgh, jgh, jgh, jgh, jgh, jgh, jgh, jgh, jgh, jgh, jgh, jzA_322, (100, [], jS0), jgh, jgh, jgh, jgh, jgh, jgh, jgh, jgh, jgh, jgh, jgh, jgh, jgh, jgh, jgh, (117, [], [35, 36, 37, 38]), jgh, jgh, jgh, jgh, jgh, (7, [(4, 39), (4, (-1)), (4, (-1))], []), jgh, (114, [], [40]), jgh]) (rfl) (by simp only [List.cons.injEq, Prod.mk.injEq, and_true, true_and] <;> ((try unfold jw); (try unfold jwl); omega)) (rfl) ?_
  refine jT_xaload_n (v := (6, 0)) (pcN := 1174) jI_379_1173 rfl rfl rfl ?_
  refine jT_xiload (v := (0, 0)) (pcN := 1176) jI_379_1174 rfl rfl rfl ?_
  refine jT_xiconst (k := 2) (pcN := 1177) jI_379_1176 rfl ?_
  refine jT_xiadd (x := 0) (y := 2) (z := 2) (pcN := 1178) jI_379_1177 rfl (by decide) rfl ?_
  refine jT_adv 1 (pcN := 1179) (LN := [(5, (0, 0)), (4, (4, 3)), (3, (4, 2)), (2, (4, 1)), (1, (4, 0)), (0, (6, 0))]) (stN := [(0, x2), (0, 2), (4, 0)]) (hsN := jpA_1928) (c1 := 0) (s1 := 0) (c2 := 1) (s2 := 6) (by exact rfl) ?_ (by omega) (by omega)
  refine jT_xaload_n (v := (4, 2)) (pcN := 1180) jI_379_1179 rfl rfl rfl ?_
  refine jT_fR [0, 2, 4, 5, 6, 7, 8, 9, 10, 11, 12, 13, 14, 30, 31, 32, 33, 34, 35, 36, 37, 38, 39, 40] 41 (y := 337) (pcN := 1183) (dC := 2) (bc1 := 1) (bc2 := 6) (c1 := 0) (c2 := 0) (as := [(4, 0), (0, 2), (0, x2), (4, 2)]) (asC := [(4, 0), (0, 2), (0, x2), (4, 1)]) (LN := [(5, (0, 0)), (4, (4, 3)), (3, (4, 2)), (2, (4, 1)), (1, (4, 0)), (0, (6, 0))]) (stN := []) (hsC := jpA_1859) (v := (0, 1)) (st2 := [(0, 1)]) (jA_337_483 (d := 0) (by omega)) (by rfl) (by rfl) (by decide +kernel) (by rfl) (by rfl) (by omega) (by omega) (by omega) (by omega) rfl ?_
  refine jT_xistore (v := (0, 1)) (LN := [(6, (0, 1)), (5, (0, 0)), (4, (4, 3)), (3, (4, 2)), (2, (4, 1)), (1, (4, 0)), (0, (6, 0))]) (pcN := 1185) jI_379_1183 rfl rfl rfl rfl ?_
  refine jT_xaload_n (v := (4, 1)) (pcN := 1186) jI_379_1185 rfl rfl rfl ?_
  refine jT_xaload_n (v := (6, 0)) (pcN := 1187) jI_379_1186 rfl rfl rfl ?_
  refine jT_xiload (v := (0, 0)) (pcN := 1189) jI_379_1187 rfl rfl rfl ?_
  refine jT_xiconst (k := 1) (pcN := 1190) jI_379_1189 rfl ?_
  refine jT_xiadd (x := 0) (y := 1) (z := 1) (pcN := 1191) jI_379_1190 rfl (by decide) rfl ?_
  refine jT_adv 1 (pcN := 1192) (LN := [(6, (0, 1)), (5, (0, 0)), (4, (4, 3)), (3, (4, 2)), (2, (4, 1)), (1, (4, 0)), (0, (6, 0))]) (stN := [(0, x1), (4, 1)]) (hsN := jpA_1928) (c1 := 0) (s1 := 0) (c2 := 0) (s2 := 0) (by exact rfl) ?_ (by omega) (by omega)
  refine jT_eq (LN := [(6, (0, 1)), (5, (0, 0)), (4, (4, 3)), (3, (4, 2)), (2, (4, 1)), (1, (4, 0)), (0, (6, 0))]) (stN := [(0, 2), (4, 1)]) (hsN := [jzA_265, jzA_266, jgh, jgh, jgh, jgh, jgh, jgh, jgh, jgh, jgh, jgh, jgh, jgh, jzA_322, (100, [], jS0), jgh, jgh, jgh, jgh, jgh, jgh, jgh, jgh, jgh, jgh, jgh, jgh, jgh, jgh, jgh, (117, [], [35, 36, 37, 38]), jgh, jgh, jgh, jgh, jgh, (7, [(4, 39), (4, (-1)), (4, (-1))], []), jgh, (114, [], [40]), jgh]) (rfl) (by simp only [List.cons.injEq, Prod.mk.injEq, and_true, true_and] <;> ((try unfold jw); (try unfold jwl); omega)) (rfl) ?_
  refine jT_xaload_n (v := (6, 0)) (pcN := 1193) jI_379_1192 rfl rfl rfl ?_
  refine jT_xiload (v := (0, 0)) (pcN := 1195) jI_379_1193 rfl rfl rfl ?_
  refine jT_xiconst (k := 2) (pcN := 1196) jI_379_1195 rfl ?_
  refine jT_xiadd (x := 0) (y := 2) (z := 2) (pcN := 1197) jI_379_1196 rfl (by decide) rfl ?_
  refine jT_adv 1 (pcN := 1198) (LN := [(6, (0, 1)), (5, (0, 0)), (4, (4, 3)), (3, (4, 2)), (2, (4, 1)), (1, (4, 0)), (0, (6, 0))]) (stN := [(0, x2), (0, 2), (4, 1)]) (hsN := jpA_1928) (c1 := 0) (s1 := 0) (c2 := 0) (s2 := 0) (by exact rfl) ?_ (by omega) (by omega)
  refine jT_fB [1, 15, 16, 17, 18, 19, 20, 21, 22, 23, 24, 25, 26, 27, 28, 29] 41 (y := 246) (pcN := 1201) (dC := 2) (bc1 := 0) (bc2 := 0) (c1 := 0) (c2 := 0) (as := [(4, 1), (0, 2), (0, x2)]) (asC := [(4, 0), (0, 2), (0, x2)]) (LN := [(6, (0, 1)), (5, (0, 0)), (4, (4, 3)), (3, (4, 2)), (2, (4, 1)), (1, (4, 0)), (0, (6, 0))]) (stN := []) (hsC := jpA_1519) (hsD := jpA_1820) (v := (0, 0)) (st2 := [(0, 0)]) (hs2 := jpA_1929) (jA_246_485 (d := 0) (by omega)) (by rfl) (by rfl) (by decide +kernel) (by rfl) (by rfl) (by omega) (by omega) (by omega) (by omega) rfl (by decide +kernel) ?_
  refine jT_xistore (v := (0, 0)) (LN := [(7, (0, 0)), (6, (0, 1)), (5, (0, 0)), (4, (4, 3)), (3, (4, 2)), (2, (4, 1)), (1, (4, 0)), (0, (6, 0))]) (pcN := 1203) jI_379_1201 rfl rfl rfl rfl ?_
  refine jT_xaload_n (v := (4, 1)) (pcN := 1204) jI_379_1203 rfl rfl rfl ?_
  refine jT_fR [1, 15, 16, 17, 18, 19, 20, 21, 22, 23, 24, 25, 26, 27, 28, 29] 41 (y := 186) (pcN := 1207) (dC := 0) (bc1 := 0) (bc2 := 0) (c1 := 0) (c2 := 0) (as := [(4, 1)]) (asC := [(4, 0)]) (LN := [(7, (0, 0)), (6, (0, 1)), (5, (0, 0)), (4, (4, 3)), (3, (4, 2)), (2, (4, 1)), (1, (4, 0)), (0, (6, 0))]) (stN := []) (hsC := jpA_20) (v := (0, 1)) (st2 := [(0, 1)]) (jA_186_8 (d := 0)) (by rfl) (by rfl) (by decide +kernel) (by rfl) (by rfl) (by omega) (by omega) (by omega) (by omega) rfl ?_
  refine jT_xiload (v := (0, 1)) (pcN := 1209) jI_379_1207 rfl rfl rfl ?_
  refine jT_xicT (pcN := 1214) jI_379_1209 rfl (by decide +kernel) rfl ?_
  refine jT_xiload (v := (0, 1)) (pcN := 1216) jI_379_1214 rfl rfl rfl ?_
  refine jT_xifT (pcN := 1231) jI_379_1216 rfl (by decide +kernel) rfl ?_
  refine jT_xgoto (pcN := 3740) jI_379_1231 rfl ?_
  refine jT_xiinc (x := 0) (z := 5) (LN := [(5, (0, 5)), (7, (0, 0)), (6, (0, 1)), (4, (4, 3)), (3, (4, 2)), (2, (4, 1)), (1, (4, 0)), (0, (6, 0))]) (pcN := 3743) jI_379_3740 rfl rfl (by decide) rfl rfl ?_
  refine jT_xgoto (pcN := 28) jI_379_3743 rfl ?_
  refine jT_xiload (v := (0, 5)) (pcN := 30) jI_379_28 rfl rfl rfl ?_
  refine jT_xaload_n (v := (6, 0)) (pcN := 31) jI_379_30 rfl rfl rfl ?_
  refine jT_adv 1 (pcN := 32) (LN := [(5, (0, 5)), (7, (0, 0)), (6, (0, 1)), (4, (4, 3)), (3, (4, 2)), (2, (4, 1)), (1, (4, 0)), (0, (6, 0))]) (stN := [(0, 5), (0, 5)]) (hsN := jpA_1929) (c1 := 0) (s1 := 0) (c2 := 0) (s2 := 0) (by exact rfl) ?_ (by omega) (by omega)
  refine jT_xiconst (k := 5) (pcN := 33) jI_379_32 rfl ?_
  refine jT_xisub (x := 5) (y := 5) (z := 0) (pcN := 34) jI_379_33 rfl (by decide) rfl ?_
  refine jT_xicT (pcN := 3746) jI_379_34 rfl (by decide +kernel) rfl ?_
  refine jT_xiconst (k := 1) (pcN := 3747) jI_379_3746 rfl ?_
  exact jT_ret rfl (by decide) (by show 41 ≤ 41; decide) (by omega) (by omega) ⟨rfl, rfl⟩
def jpA_1933 : List JC := [jzA_265, jzA_266, jgh, jgh, jgh, jgh, jgh, jgh, jgh, jgh, jgh, jgh, jgh, jgh, jzA_322, (100, [], jS0), jgh, jgh, jgh, jgh, jgh, jgh, jgh, jgh, jgh, jgh, jgh, jgh, jgh, jgh, jgh, (117, [], [35, 36, 37, 38]), jgh, jgh, jgh, jgh, jgh, jgh, (7, [(4, 39), (4, (-1)), (4, (-1))], []), (114, [], [40]), jgh]
def jpA_1934 : List JC := [jzA_265, jzA_305, jgh, jgh, jgh, jgh, jgh, jgh, jgh, jgh, jgh, jgh, jgh, jgh, jzA_322, (100, [], jS0), jgh, jgh, jgh, jgh, jgh, jgh, jgh, jgh, jgh, jgh, jgh, jgh, jgh, jgh, jgh, (117, [], [35, 36, 37, 38]), jgh, jgh, jgh, jgh, jgh, jgh, (7, [(4, 39), (4, (-1)), (4, (-1))], []), (114, [], [40]), jgh]
set_option maxRecDepth 100000 in
theorem jL_11_10 {d : Nat} {x0 x1 x2 x3 x4 : Int} (h_x0 : (-2147483648) ≤ x0 ∧ x0 ≤ 2147483647) (h_x1 : 3 ≤ x1 ∧ x1 ≤ 3) (h_x2 : (-2147483648) ≤ x2 ∧ x2 ≤ (-1)) (h_x3 : (-2147483648) ≤ x3 ∧ x3 ≤ 2147483647) (h_x4 : (-2147483648) ≤ x4 ∧ x4 ≤ 2147483647) : jT [x0, x1, x2, x3, x4] (d + 3) 379 41 1166 [(5, (0, 0)), (4, (4, 3)), (3, (4, 2)), (2, (4, 1)), (1, (4, 0)), (0, (6, 0))] [] jpA_1933 1 6 (fun k v hsN => k = 0 ∧ v = (0, 1)) := by
  refine jT_xaload_n (v := (4, 0)) (pcN := 1167) jI_379_1166 rfl rfl rfl ?_
  refine jT_xaload_n (v := (6, 0)) (pcN := 1168) jI_379_1167 rfl rfl rfl ?_
  refine jT_xiload (v := (0, 0)) (pcN := 1170) jI_379_1168 rfl rfl rfl ?_
  refine jT_xiconst (k := 1) (pcN := 1171) jI_379_1170 rfl ?_
  refine jT_xiadd (x := 0) (y := 1) (z := 1) (pcN := 1172) jI_379_1171 rfl (by decide) rfl ?_
  refine jT_adv 1 (pcN := 1173) (LN := [(5, (0, 0)), (4, (4, 3)), (3, (4, 2)), (2, (4, 1)), (1, (4, 0)), (0, (6, 0))]) (stN := [(0, x1), (4, 0)]) (hsN := jpA_1933) (c1 := 0) (s1 := 0) (c2 := 1) (s2 := 6) (by exact rfl) ?_ (by omega) (by omega)
  refine jT_eq (LN := [(5, (0, 0)), (4, (4, 3)), (3, (4, 2)), (2, (4, 1)), (1, (4, 0)), (0, (6, 0))]) (stN := [(0, 3), (4, 0)]) (hsN := [jzA_265, jzA_266, jgh, jgh, jgh, jgh, jgh, jgh, jgh, jgh, jgh, jgh, jgh, jgh, jzA_322, (100, [], jS0), jgh, jgh, jgh, jgh, jgh, jgh, jgh, jgh, jgh, jgh, jgh, jgh, jgh, jgh, jgh, (117, [], [35, 36, 37, 38]), jgh, jgh, jgh, jgh, jgh, jgh, (7, [(4, 39), (4, (-1)), (4, (-1))], []), (114, [], [40]), jgh]) (rfl) (by simp only [List.cons.injEq, Prod.mk.injEq, and_true, true_and] <;> ((try unfold jw); (try unfold jwl); omega)) (rfl) ?_
  refine jT_xaload_n (v := (6, 0)) (pcN := 1174) jI_379_1173 rfl rfl rfl ?_
  refine jT_xiload (v := (0, 0)) (pcN := 1176) jI_379_1174 rfl rfl rfl ?_
  refine jT_xiconst (k := 2) (pcN := 1177) jI_379_1176 rfl ?_
  refine jT_xiadd (x := 0) (y := 2) (z := 2) (pcN := 1178) jI_379_1177 rfl (by decide) rfl ?_
  refine jT_adv 1 (pcN := 1179) (LN := [(5, (0, 0)), (4, (4, 3)), (3, (4, 2)), (2, (4, 1)), (1, (4, 0)), (0, (6, 0))]) (stN := [(0, x2), (0, 3), (4, 0)]) (hsN := jpA_1933) (c1 := 0) (s1 := 0) (c2 := 1) (s2 := 6) (by exact rfl) ?_ (by omega) (by omega)
  refine jT_xaload_n (v := (4, 2)) (pcN := 1180) jI_379_1179 rfl rfl rfl ?_
  refine jT_fR [0, 2, 4, 5, 6, 7, 8, 9, 10, 11, 12, 13, 14, 30, 31, 32, 33, 34, 35, 36, 37, 38, 39, 40] 41 (y := 337) (pcN := 1183) (dC := 2) (bc1 := 1) (bc2 := 6) (c1 := 0) (c2 := 0) (as := [(4, 0), (0, 3), (0, x2), (4, 2)]) (asC := [(4, 0), (0, 3), (0, x2), (4, 1)]) (LN := [(5, (0, 0)), (4, (4, 3)), (3, (4, 2)), (2, (4, 1)), (1, (4, 0)), (0, (6, 0))]) (stN := []) (hsC := jpA_1872) (v := (0, 1)) (st2 := [(0, 1)]) (jA_337_487 (d := 0) (by omega)) (by rfl) (by rfl) (by decide +kernel) (by rfl) (by rfl) (by omega) (by omega) (by omega) (by omega) rfl ?_
  refine jT_xistore (v := (0, 1)) (LN := [(6, (0, 1)), (5, (0, 0)), (4, (4, 3)), (3, (4, 2)), (2, (4, 1)), (1, (4, 0)), (0, (6, 0))]) (pcN := 1185) jI_379_1183 rfl rfl rfl rfl ?_
  refine jT_xaload_n (v := (4, 1)) (pcN := 1186) jI_379_1185 rfl rfl rfl ?_
  refine jT_xaload_n (v := (6, 0)) (pcN := 1187) jI_379_1186 rfl rfl rfl ?_
  refine jT_xiload (v := (0, 0)) (pcN := 1189) jI_379_1187 rfl rfl rfl ?_
  refine jT_xiconst (k := 1) (pcN := 1190) jI_379_1189 rfl ?_
  refine jT_xiadd (x := 0) (y := 1) (z := 1) (pcN := 1191) jI_379_1190 rfl (by decide) rfl ?_
  refine jT_adv 1 (pcN := 1192) (LN := [(6, (0, 1)), (5, (0, 0)), (4, (4, 3)), (3, (4, 2)), (2, (4, 1)), (1, (4, 0)), (0, (6, 0))]) (stN := [(0, x1), (4, 1)]) (hsN := jpA_1933) (c1 := 0) (s1 := 0) (c2 := 0) (s2 := 0) (by exact rfl) ?_ (by omega) (by omega)
  refine jT_eq (LN := [(6, (0, 1)), (5, (0, 0)), (4, (4, 3)), (3, (4, 2)), (2, (4, 1)), (1, (4, 0)), (0, (6, 0))]) (stN := [(0, 3), (4, 1)]) (hsN := [jzA_265, jzA_266, jgh, jgh, jgh, jgh, jgh, jgh, jgh, jgh, jgh, jgh, jgh, jgh, jzA_322, (100, [], jS0), jgh, jgh, jgh, jgh, jgh, jgh, jgh, jgh, jgh, jgh, jgh, jgh, jgh, jgh, jgh, (117, [], [35, 36, 37, 38]), jgh, jgh, jgh, jgh, jgh, jgh, (7, [(4, 39), (4, (-1)), (4, (-1))], []), (114, [], [40]), jgh]) (rfl) (by simp only [List.cons.injEq, Prod.mk.injEq, and_true, true_and] <;> ((try unfold jw); (try unfold jwl); omega)) (rfl) ?_
  refine jT_xaload_n (v := (6, 0)) (pcN := 1193) jI_379_1192 rfl rfl rfl ?_
  refine jT_xiload (v := (0, 0)) (pcN := 1195) jI_379_1193 rfl rfl rfl ?_
  refine jT_xiconst (k := 2) (pcN := 1196) jI_379_1195 rfl ?_
  refine jT_xiadd (x := 0) (y := 2) (z := 2) (pcN := 1197) jI_379_1196 rfl (by decide) rfl ?_
  refine jT_adv 1 (pcN := 1198) (LN := [(6, (0, 1)), (5, (0, 0)), (4, (4, 3)), (3, (4, 2)), (2, (4, 1)), (1, (4, 0)), (0, (6, 0))]) (stN := [(0, x2), (0, 3), (4, 1)]) (hsN := jpA_1933) (c1 := 0) (s1 := 0) (c2 := 0) (s2 := 0) (by exact rfl) ?_ (by omega) (by omega)
  refine jT_fB [1, 15, 16, 17, 18, 19, 20, 21, 22, 23, 24, 25, 26, 27, 28, 29] 41 (y := 246) (pcN := 1201) (dC := 2) (bc1 := 0) (bc2 := 0) (c1 := 0) (c2 := 0) (as := [(4, 1), (0, 3), (0, x2)]) (asC := [(4, 0), (0, 3), (0, x2)]) (LN := [(6, (0, 1)), (5, (0, 0)), (4, (4, 3)), (3, (4, 2)), (2, (4, 1)), (1, (4, 0)), (0, (6, 0))]) (stN := []) (hsC := jpA_1519) (hsD := jpA_1820) (v := (0, 0)) (st2 := [(0, 0)]) (hs2 := jpA_1934) (jA_246_489 (d := 0) (by omega)) (by rfl) (by rfl) (by decide +kernel) (by rfl) (by rfl) (by omega) (by omega) (by omega) (by omega) rfl (by decide +kernel) ?_
  refine jT_xistore (v := (0, 0)) (LN := [(7, (0, 0)), (6, (0, 1)), (5, (0, 0)), (4, (4, 3)), (3, (4, 2)), (2, (4, 1)), (1, (4, 0)), (0, (6, 0))]) (pcN := 1203) jI_379_1201 rfl rfl rfl rfl ?_
  refine jT_xaload_n (v := (4, 1)) (pcN := 1204) jI_379_1203 rfl rfl rfl ?_
  refine jT_fR [1, 15, 16, 17, 18, 19, 20, 21, 22, 23, 24, 25, 26, 27, 28, 29] 41 (y := 186) (pcN := 1207) (dC := 0) (bc1 := 0) (bc2 := 0) (c1 := 0) (c2 := 0) (as := [(4, 1)]) (asC := [(4, 0)]) (LN := [(7, (0, 0)), (6, (0, 1)), (5, (0, 0)), (4, (4, 3)), (3, (4, 2)), (2, (4, 1)), (1, (4, 0)), (0, (6, 0))]) (stN := []) (hsC := jpA_20) (v := (0, 1)) (st2 := [(0, 1)]) (jA_186_8 (d := 0)) (by rfl) (by rfl) (by decide +kernel) (by rfl) (by rfl) (by omega) (by omega) (by omega) (by omega) rfl ?_
  refine jT_xiload (v := (0, 1)) (pcN := 1209) jI_379_1207 rfl rfl rfl ?_
  refine jT_xicT (pcN := 1214) jI_379_1209 rfl (by decide +kernel) rfl ?_
  refine jT_xiload (v := (0, 1)) (pcN := 1216) jI_379_1214 rfl rfl rfl ?_
  refine jT_xifT (pcN := 1231) jI_379_1216 rfl (by decide +kernel) rfl ?_
  refine jT_xgoto (pcN := 3740) jI_379_1231 rfl ?_
  refine jT_xiinc (x := 0) (z := 5) (LN := [(5, (0, 5)), (7, (0, 0)), (6, (0, 1)), (4, (4, 3)), (3, (4, 2)), (2, (4, 1)), (1, (4, 0)), (0, (6, 0))]) (pcN := 3743) jI_379_3740 rfl rfl (by decide) rfl rfl ?_
  refine jT_xgoto (pcN := 28) jI_379_3743 rfl ?_
  refine jT_xiload (v := (0, 5)) (pcN := 30) jI_379_28 rfl rfl rfl ?_
  refine jT_xaload_n (v := (6, 0)) (pcN := 31) jI_379_30 rfl rfl rfl ?_
  refine jT_adv 1 (pcN := 32) (LN := [(5, (0, 5)), (7, (0, 0)), (6, (0, 1)), (4, (4, 3)), (3, (4, 2)), (2, (4, 1)), (1, (4, 0)), (0, (6, 0))]) (stN := [(0, 5), (0, 5)]) (hsN := jpA_1934) (c1 := 0) (s1 := 0) (c2 := 0) (s2 := 0) (by exact rfl) ?_ (by omega) (by omega)
  refine jT_xiconst (k := 5) (pcN := 33) jI_379_32 rfl ?_
  refine jT_xisub (x := 5) (y := 5) (z := 0) (pcN := 34) jI_379_33 rfl (by decide) rfl ?_
  refine jT_xicT (pcN := 3746) jI_379_34 rfl (by decide +kernel) rfl ?_
  refine jT_xiconst (k := 1) (pcN := 3747) jI_379_3746 rfl ?_
  exact jT_ret rfl (by decide) (by show 41 ≤ 41; decide) (by omega) (by omega) ⟨rfl, rfl⟩
def jpA_1935 : List JC := [jzA_265, jzA_266, (101, [], [0]), jgh, jgh, jgh, jgh, jgh, jgh, jgh, jgh, jgh, jgh, jzA_79, jzA_322, (100, [], jS0), (100, [], []), jzA_323, jzA_197, jgh, jgh, (101, [], [0, 0, 0, 0, 0, 0]), (100, [], (List.replicate 1792 0)), jgh, jgh, jgh, jgh, jgh, jgh, jgh, jgh, (117, [], [43, 44, 45, 46]), jgh, jgh, jgh, (100, [], (List.replicate 1613 0)), jgh, jgh, jgh, jgh, jgh, jgh, jgh, jgh, jgh, jgh, (7, [(4, 47), (4, (-1)), (4, (-1))], []), (114, [], [48]), (4, [(4, 49), (1, 1)], []), (101, [], [0, 0, 0, 0, 0, 0])]
def jpA_1936 : List JC := [jzA_725, jzA_266, (101, [], [1]), jgh, jgh, jgh, jgh, jgh, jgh, jgh, jgh, jgh, jgh, jzA_327, jzA_322, (100, [], jS0), (100, [], []), jzA_323, jzA_197, jgh, jgh, (101, [], [0, 0, 0, 0, 0, 0]), (100, [], (List.replicate 1792 0)), jgh, jgh, jgh, jgh, jgh, jgh, jgh, jgh, (117, [], [43, 44, 45, 46]), jgh, jgh, jgh, (100, [], (List.replicate 1613 0)), jgh, jgh, jgh, jgh, jgh, jgh, jgh, jgh, jgh, jgh, (7, [(4, 47), (4, (-1)), (4, (-1))], []), (114, [], [48]), (4, [(4, 49), (1, 1)], []), (101, [], [0, 0, 0, 0, 0, 0]), (114, [], [52]), (101, [], [0, 0, 0, 0, 0, 0]), (4, [(4, 51), (1, 1)], []), (114, [], [52]), (7, [(4, 53), (4, (-1)), (4, (-1))], []), (117, [], [43, 44, 45, 54]), jzA_1914]
def jpA_1937 : List JC := [jzA_725, jzA_1753, (101, [], [1]), jgh, jgh, jgh, jgh, jgh, jgh, jgh, jgh, jgh, jgh, jzA_327, jzA_322, jzA_1673, (100, [], []), jzA_323, jzA_331, jgh, jgh, (101, [], [0, 0, 0, 0, 0, 0]), jzA_1539, jgh, jgh, jgh, jgh, jgh, jgh, jgh, jgh, (117, [], [43, 44, 45, 46]), jgh, jgh, jgh, (100, [], jS0), jgh, jgh, jgh, jgh, jgh, jgh, jgh, jgh, jgh, jgh, (7, [(4, 47), (4, (-1)), (4, (-1))], []), (114, [], [48]), (4, [(4, 49), (1, 1)], []), (101, [], [0, 0, 0, 0, 0, 0]), (114, [], [52]), (101, [], [0, 0, 0, 0, 0, 0]), (4, [(4, 51), (1, 1)], []), (114, [], [52]), (7, [(4, 53), (4, (-1)), (4, (-1))], []), (117, [], [43, 44, 45, 54]), jzA_1914]
set_option maxRecDepth 100000 in
theorem jL_11_11 {d : Nat} {x0 x1 x2 x3 x4 : Int} (h_x0 : (-2147483648) ≤ x0 ∧ x0 ≤ 2147483647) (h_x1 : 3 ≤ x1 ∧ x1 ≤ 3) (h_x2 : 0 ≤ x2 ∧ x2 ≤ 0) (h_x3 : (-2147483648) ≤ x3 ∧ x3 ≤ 2147483647) (h_x4 : (-2147483648) ≤ x4 ∧ x4 ≤ 2147483647) : jT [x0, x1, x2, x3, x4] (d + 6) 379 50 1166 [(5, (0, 0)), (4, (4, 3)), (3, (4, 2)), (2, (4, 1)), (1, (4, 0)), (0, (6, 0))] [] jpA_1935 7 22 (fun k v hsN => k = 0 ∧ v = (0, 1)) := by
  refine jT_xaload_n (v := (4, 0)) (pcN := 1167) jI_379_1166 rfl rfl rfl ?_
  refine jT_xaload_n (v := (6, 0)) (pcN := 1168) jI_379_1167 rfl rfl rfl ?_
  refine jT_xiload (v := (0, 0)) (pcN := 1170) jI_379_1168 rfl rfl rfl ?_
  refine jT_xiconst (k := 1) (pcN := 1171) jI_379_1170 rfl ?_
  refine jT_xiadd (x := 0) (y := 1) (z := 1) (pcN := 1172) jI_379_1171 rfl (by decide) rfl ?_
  refine jT_adv 1 (pcN := 1173) (LN := [(5, (0, 0)), (4, (4, 3)), (3, (4, 2)), (2, (4, 1)), (1, (4, 0)), (0, (6, 0))]) (stN := [(0, x1), (4, 0)]) (hsN := jpA_1935) (c1 := 0) (s1 := 0) (c2 := 7) (s2 := 22) (by exact rfl) ?_ (by omega) (by omega)
  refine jT_eq (LN := [(5, (0, 0)), (4, (4, 3)), (3, (4, 2)), (2, (4, 1)), (1, (4, 0)), (0, (6, 0))]) (stN := [(0, 3), (4, 0)]) (hsN := [jzA_265, jzA_266, (101, [], [0]), jgh, jgh, jgh, jgh, jgh, jgh, jgh, jgh, jgh, jgh, jzA_79, jzA_322, (100, [], jS0), (100, [], []), jzA_323, jzA_197, jgh, jgh, (101, [], [0, 0, 0, 0, 0, 0]), (100, [], (List.replicate 1792 0)), jgh, jgh, jgh, jgh, jgh, jgh, jgh, jgh, (117, [], [43, 44, 45, 46]), jgh, jgh, jgh, (100, [], (List.replicate 1613 0)), jgh, jgh, jgh, jgh, jgh, jgh, jgh, jgh, jgh, jgh, (7, [(4, 47), (4, (-1)), (4, (-1))], []), (114, [], [48]), (4, [(4, 49), (1, 1)], []), (101, [], [0, 0, 0, 0, 0, 0])]) (rfl) (by simp only [List.cons.injEq, Prod.mk.injEq, and_true, true_and] <;> ((try unfold jw); (try unfold jwl); omega)) (rfl) ?_
  refine jT_xaload_n (v := (6, 0)) (pcN := 1174) jI_379_1173 rfl rfl rfl ?_
  refine jT_xiload (v := (0, 0)) (pcN := 1176) jI_379_1174 rfl rfl rfl ?_
  refine jT_xiconst (k := 2) (pcN := 1177) jI_379_1176 rfl ?_
  refine jT_xiadd (x := 0) (y := 2) (z := 2) (pcN := 1178) jI_379_1177 rfl (by decide) rfl ?_
  refine jT_adv 1 (pcN := 1179) (LN := [(5, (0, 0)), (4, (4, 3)), (3, (4, 2)), (2, (4, 1)), (1, (4, 0)), (0, (6, 0))]) (stN := [(0, x2), (0, 3), (4, 0)]) (hsN := jpA_1935) (c1 := 0) (s1 := 0) (c2 := 7) (s2 := 22) (by exact rfl) ?_ (by omega) (by omega)
  refine jT_eq (LN := [(5, (0, 0)), (4, (4, 3)), (3, (4, 2)), (2, (4, 1)), (1, (4, 0)), (0, (6, 0))]) (stN := [(0, 0), (0, 3), (4, 0)]) (hsN := [jzA_265, jzA_266, (101, [], [0]), jgh, jgh, jgh, jgh, jgh, jgh, jgh, jgh, jgh, jgh, jzA_79, jzA_322, (100, [], jS0), (100, [], []), jzA_323, jzA_197, jgh, jgh, (101, [], [0, 0, 0, 0, 0, 0]), (100, [], (List.replicate 1792 0)), jgh, jgh, jgh, jgh, jgh, jgh, jgh, jgh, (117, [], [43, 44, 45, 46]), jgh, jgh, jgh, (100, [], (List.replicate 1613 0)), jgh, jgh, jgh, jgh, jgh, jgh, jgh, jgh, jgh, jgh, (7, [(4, 47), (4, (-1)), (4, (-1))], []), (114, [], [48]), (4, [(4, 49), (1, 1)], []), (101, [], [0, 0, 0, 0, 0, 0])]) (rfl) (by simp only [List.cons.injEq, Prod.mk.injEq, and_true, true_and] <;> ((try unfold jw); (try unfold jwl); omega)) (rfl) ?_
  refine jT_xaload_n (v := (4, 2)) (pcN := 1180) jI_379_1179 rfl rfl rfl ?_
  refine jT_fB [0, 2, 4, 5, 6, 7, 8, 9, 10, 11, 12, 13, 14, 30, 31, 32, 33, 34, 43, 44, 45, 46, 47, 48, 49] 50 (y := 337) (pcN := 1183) (dC := 5) (bc1 := 7) (bc2 := 22) (c1 := 0) (c2 := 0) (as := [(4, 0), (0, 3), (0, 0), (4, 2)]) (asC := [(4, 0), (0, 3), (0, 0), (4, 1)]) (LN := [(5, (0, 0)), (4, (4, 3)), (3, (4, 2)), (2, (4, 1)), (1, (4, 0)), (0, (6, 0))]) (stN := []) (hsC := jpA_1880) (hsD := jpA_1882) (v := (0, 0)) (st2 := [(0, 0)]) (hs2 := jpA_1936) (jA_337_491 (d := 0)) (by rfl) (by rfl) (by decide +kernel) (by rfl) (by rfl) (by omega) (by omega) (by omega) (by omega) rfl (by decide +kernel) ?_
  refine jT_xistore (v := (0, 0)) (LN := [(6, (0, 0)), (5, (0, 0)), (4, (4, 3)), (3, (4, 2)), (2, (4, 1)), (1, (4, 0)), (0, (6, 0))]) (pcN := 1185) jI_379_1183 rfl rfl rfl rfl ?_
  refine jT_xaload_n (v := (4, 1)) (pcN := 1186) jI_379_1185 rfl rfl rfl ?_
  refine jT_xaload_n (v := (6, 0)) (pcN := 1187) jI_379_1186 rfl rfl rfl ?_
  refine jT_xiload (v := (0, 0)) (pcN := 1189) jI_379_1187 rfl rfl rfl ?_
  refine jT_xiconst (k := 1) (pcN := 1190) jI_379_1189 rfl ?_
  refine jT_xiadd (x := 0) (y := 1) (z := 1) (pcN := 1191) jI_379_1190 rfl (by decide) rfl ?_
  refine jT_adv 1 (pcN := 1192) (LN := [(6, (0, 0)), (5, (0, 0)), (4, (4, 3)), (3, (4, 2)), (2, (4, 1)), (1, (4, 0)), (0, (6, 0))]) (stN := [(0, x1), (4, 1)]) (hsN := jpA_1936) (c1 := 0) (s1 := 0) (c2 := 0) (s2 := 0) (by exact rfl) ?_ (by omega) (by omega)
  refine jT_eq (LN := [(6, (0, 0)), (5, (0, 0)), (4, (4, 3)), (3, (4, 2)), (2, (4, 1)), (1, (4, 0)), (0, (6, 0))]) (stN := [(0, 3), (4, 1)]) (hsN := [jzA_725, jzA_266, (101, [], [1]), jgh, jgh, jgh, jgh, jgh, jgh, jgh, jgh, jgh, jgh, jzA_327, jzA_322, (100, [], jS0), (100, [], []), jzA_323, jzA_197, jgh, jgh, (101, [], [0, 0, 0, 0, 0, 0]), (100, [], (List.replicate 1792 0)), jgh, jgh, jgh, jgh, jgh, jgh, jgh, jgh, (117, [], [43, 44, 45, 46]), jgh, jgh, jgh, (100, [], (List.replicate 1613 0)), jgh, jgh, jgh, jgh, jgh, jgh, jgh, jgh, jgh, jgh, (7, [(4, 47), (4, (-1)), (4, (-1))], []), (114, [], [48]), (4, [(4, 49), (1, 1)], []), (101, [], [0, 0, 0, 0, 0, 0]), (114, [], [52]), (101, [], [0, 0, 0, 0, 0, 0]), (4, [(4, 51), (1, 1)], []), (114, [], [52]), (7, [(4, 53), (4, (-1)), (4, (-1))], []), (117, [], [43, 44, 45, 54]), jzA_1914]) (rfl) (by simp only [List.cons.injEq, Prod.mk.injEq, and_true, true_and] <;> ((try unfold jw); (try unfold jwl); omega)) (rfl) ?_
  refine jT_xaload_n (v := (6, 0)) (pcN := 1193) jI_379_1192 rfl rfl rfl ?_
  refine jT_xiload (v := (0, 0)) (pcN := 1195) jI_379_1193 rfl rfl rfl ?_
  refine jT_xiconst (k := 2) (pcN := 1196) jI_379_1195 rfl ?_
  refine jT_xiadd (x := 0) (y := 2) (z := 2) (pcN := 1197) jI_379_1196 rfl (by decide) rfl ?_
  refine jT_adv 1 (pcN := 1198) (LN := [(6, (0, 0)), (5, (0, 0)), (4, (4, 3)), (3, (4, 2)), (2, (4, 1)), (1, (4, 0)), (0, (6, 0))]) (stN := [(0, x2), (0, 3), (4, 1)]) (hsN := jpA_1936) (c1 := 0) (s1 := 0) (c2 := 0) (s2 := 0) (by exact rfl) ?_ (by omega) (by omega)
  refine jT_eq (LN := [(6, (0, 0)), (5, (0, 0)), (4, (4, 3)), (3, (4, 2)), (2, (4, 1)), (1, (4, 0)), (0, (6, 0))]) (stN := [(0, 0), (0, 3), (4, 1)]) (hsN := [jzA_725, jzA_266, (101, [], [1]), jgh, jgh, jgh, jgh, jgh, jgh, jgh, jgh, jgh, jgh, jzA_327, jzA_322, (100, [], jS0), (100, [], []), jzA_323, jzA_197, jgh, jgh, (101, [], [0, 0, 0, 0, 0, 0]), (100, [], (List.replicate 1792 0)), jgh, jgh, jgh, jgh, jgh, jgh, jgh, jgh, (117, [], [43, 44, 45, 46]), jgh, jgh, jgh, (100, [], (List.replicate 1613 0)), jgh, jgh, jgh, jgh, jgh, jgh, jgh, jgh, jgh, jgh, (7, [(4, 47), (4, (-1)), (4, (-1))], []), (114, [], [48]), (4, [(4, 49), (1, 1)], []), (101, [], [0, 0, 0, 0, 0, 0]), (114, [], [52]), (101, [], [0, 0, 0, 0, 0, 0]), (4, [(4, 51), (1, 1)], []), (114, [], [52]), (7, [(4, 53), (4, (-1)), (4, (-1))], []), (117, [], [43, 44, 45, 54]), jzA_1914]) (rfl) (by simp only [List.cons.injEq, Prod.mk.injEq, and_true, true_and] <;> ((try unfold jw); (try unfold jwl); omega)) (rfl) ?_
  refine jT_fB [1, 15, 16, 17, 18, 19, 20, 21, 22, 23, 24, 25, 26, 27, 28, 29, 35, 36, 37, 38, 39, 40, 41, 42] 57 (y := 246) (pcN := 1201) (dC := 4) (bc1 := 0) (bc2 := 0) (c1 := 0) (c2 := 0) (as := [(4, 1), (0, 3), (0, 0)]) (asC := [(4, 0), (0, 3), (0, 0)]) (LN := [(6, (0, 0)), (5, (0, 0)), (4, (4, 3)), (3, (4, 2)), (2, (4, 1)), (1, (4, 0)), (0, (6, 0))]) (stN := []) (hsC := jpA_1842) (hsD := jpA_1883) (v := (0, 1)) (st2 := [(0, 1)]) (hs2 := jpA_1937) (jA_246_495 (d := 0)) (by rfl) (by rfl) (by decide +kernel) (by rfl) (by rfl) (by omega) (by omega) (by omega) (by omega) rfl (by decide +kernel) ?_
  refine jT_xistore (v := (0, 1)) (LN := [(7, (0, 1)), (6, (0, 0)), (5, (0, 0)), (4, (4, 3)), (3, (4, 2)), (2, (4, 1)), (1, (4, 0)), (0, (6, 0))]) (pcN := 1203) jI_379_1201 rfl rfl rfl rfl ?_
  refine jT_xaload_n (v := (4, 1)) (pcN := 1204) jI_379_1203 rfl rfl rfl ?_
  refine jT_fR [1, 15, 16, 17, 18, 19, 20, 21, 22, 23, 24, 25, 26, 27, 28, 29] 57 (y := 186) (pcN := 1207) (dC := 0) (bc1 := 0) (bc2 := 0) (c1 := 0) (c2 := 0) (as := [(4, 1)]) (asC := [(4, 0)]) (LN := [(7, (0, 1)), (6, (0, 0)), (5, (0, 0)), (4, (4, 3)), (3, (4, 2)), (2, (4, 1)), (1, (4, 0)), (0, (6, 0))]) (stN := []) (hsC := jpA_1633) (v := (0, 0)) (st2 := [(0, 0)]) (jA_186_355 (d := 0)) (by rfl) (by rfl) (by decide +kernel) (by rfl) (by rfl) (by omega) (by omega) (by omega) (by omega) rfl ?_
  refine jT_xiload (v := (0, 0)) (pcN := 1209) jI_379_1207 rfl rfl rfl ?_
  refine jT_xicT (pcN := 1214) jI_379_1209 rfl (by decide +kernel) rfl ?_
  refine jT_xiload (v := (0, 0)) (pcN := 1216) jI_379_1214 rfl rfl rfl ?_
  refine jT_xifF (t := 1231) (pcN := 1219) jI_379_1216 rfl (by decide +kernel) rfl rfl ?_
  refine jT_xaload_n (v := (4, 2)) (pcN := 1220) jI_379_1219 rfl rfl rfl ?_
  refine jT_xiconst (k := 0) (pcN := 1221) jI_379_1220 rfl ?_
  refine jT_lald (x := 1) (a := 2) (j := 0) (fs := []) (X := [1]) jI_379_1221 rfl rfl rfl rfl ?_
  refine jT_eq (LN := [(7, (0, 1)), (6, (0, 0)), (5, (0, 0)), (4, (4, 3)), (3, (4, 2)), (2, (4, 1)), (1, (4, 0)), (0, (6, 0))]) (stN := [(1, 1)]) (hsN := jpA_1937) rfl rfl rfl ?_
  refine jT_xiload (v := (0, 1)) (pcN := 1224) jI_379_1222 rfl rfl rfl ?_
  refine jT_xi2l (x := 1) (z := 1) (pcN := 1225) jI_379_1224 rfl (by decide +kernel) rfl ?_
  refine jT_lcmp (a := 1) (b := 1) (z := 0) (by rfl) (by rfl) (by decide +kernel) (by decide +kernel) (by decide) ?_
  refine jT_xifT (pcN := 1231) jI_379_1226 rfl (by decide +kernel) rfl ?_
  refine jT_xgoto (pcN := 3740) jI_379_1231 rfl ?_
  refine jT_xiinc (x := 0) (z := 5) (LN := [(5, (0, 5)), (7, (0, 1)), (6, (0, 0)), (4, (4, 3)), (3, (4, 2)), (2, (4, 1)), (1, (4, 0)), (0, (6, 0))]) (pcN := 3743) jI_379_3740 rfl rfl (by decide) rfl rfl ?_
  refine jT_xgoto (pcN := 28) jI_379_3743 rfl ?_
  refine jT_xiload (v := (0, 5)) (pcN := 30) jI_379_28 rfl rfl rfl ?_
  refine jT_xaload_n (v := (6, 0)) (pcN := 31) jI_379_30 rfl rfl rfl ?_
  refine jT_adv 1 (pcN := 32) (LN := [(5, (0, 5)), (7, (0, 1)), (6, (0, 0)), (4, (4, 3)), (3, (4, 2)), (2, (4, 1)), (1, (4, 0)), (0, (6, 0))]) (stN := [(0, 5), (0, 5)]) (hsN := jpA_1937) (c1 := 0) (s1 := 0) (c2 := 0) (s2 := 0) (by exact rfl) ?_ (by omega) (by omega)
  refine jT_xiconst (k := 5) (pcN := 33) jI_379_32 rfl ?_
  refine jT_xisub (x := 5) (y := 5) (z := 0) (pcN := 34) jI_379_33 rfl (by decide) rfl ?_
  refine jT_xicT (pcN := 3746) jI_379_34 rfl (by decide +kernel) rfl ?_
  refine jT_xiconst (k := 1) (pcN := 3747) jI_379_3746 rfl ?_
  exact jT_ret rfl (by decide) (by show 50 ≤ 57; decide) (by omega) (by omega) ⟨rfl, rfl⟩
set_option maxRecDepth 100000 in
theorem jL_11_12 {d : Nat} {x0 x1 x2 x3 x4 : Int} (h_x0 : (-2147483648) ≤ x0 ∧ x0 ≤ 2147483647) (h_x1 : 3 ≤ x1 ∧ x1 ≤ 3) (h_x2 : 1 ≤ x2 ∧ x2 ≤ 2147483647) (h_x3 : (-2147483648) ≤ x3 ∧ x3 ≤ 2147483647) (h_x4 : (-2147483648) ≤ x4 ∧ x4 ≤ 2147483647) : jT [x0, x1, x2, x3, x4] (d + 3) 379 41 1166 [(5, (0, 0)), (4, (4, 3)), (3, (4, 2)), (2, (4, 1)), (1, (4, 0)), (0, (6, 0))] [] jpA_1933 1 6 (fun k v hsN => k = 0 ∧ v = (0, 1)) := by
  refine jT_xaload_n (v := (4, 0)) (pcN := 1167) jI_379_1166 rfl rfl rfl ?_
  refine jT_xaload_n (v := (6, 0)) (pcN := 1168) jI_379_1167 rfl rfl rfl ?_
  refine jT_xiload (v := (0, 0)) (pcN := 1170) jI_379_1168 rfl rfl rfl ?_
  refine jT_xiconst (k := 1) (pcN := 1171) jI_379_1170 rfl ?_
  refine jT_xiadd (x := 0) (y := 1) (z := 1) (pcN := 1172) jI_379_1171 rfl (by decide) rfl ?_
  refine jT_adv 1 (pcN := 1173) (LN := [(5, (0, 0)), (4, (4, 3)), (3, (4, 2)), (2, (4, 1)), (1, (4, 0)), (0, (6, 0))]) (stN := [(0, x1), (4, 0)]) (hsN := jpA_1933) (c1 := 0) (s1 := 0) (c2 := 1) (s2 := 6) (by exact rfl) ?_ (by omega) (by omega)
  refine jT_eq (LN := [(5, (0, 0)), (4, (4, 3)), (3, (4, 2)), (2, (4, 1)), (1, (4, 0)), (0, (6, 0))]) (stN := [(0, 3), (4, 0)]) (hsN := [jzA_265, jzA_266, jgh, jgh, jgh, jgh, jgh, jgh, jgh, jgh, jgh, jgh, jgh, jgh, jzA_322, (100, [], jS0), jgh, jgh, jgh, jgh, jgh, jgh, jgh, jgh, jgh, jgh, jgh, jgh, jgh, jgh, jgh, (117, [], [35, 36, 37, 38]), jgh, jgh, jgh, jgh, jgh, jgh, (7, [(4, 39), (4, (-1)), (4, (-1))], []), (114, [], [40]), jgh]) (rfl) (by simp only [List.cons.injEq, Prod.mk.injEq, and_true, true_and] <;> ((try unfold jw); (try unfold jwl); omega)) (rfl) ?_
  refine jT_xaload_n (v := (6, 0)) (pcN := 1174) jI_379_1173 rfl rfl rfl ?_
  refine jT_xiload (v := (0, 0)) (pcN := 1176) jI_379_1174 rfl rfl rfl ?_
  refine jT_xiconst (k := 2) (pcN := 1177) jI_379_1176 rfl ?_
  refine jT_xiadd (x := 0) (y := 2) (z := 2) (pcN := 1178) jI_379_1177 rfl (by decide) rfl ?_
  refine jT_adv 1 (pcN := 1179) (LN := [(5, (0, 0)), (4, (4, 3)), (3, (4, 2)), (2, (4, 1)), (1, (4, 0)), (0, (6, 0))]) (stN := [(0, x2), (0, 3), (4, 0)]) (hsN := jpA_1933) (c1 := 0) (s1 := 0) (c2 := 1) (s2 := 6) (by exact rfl) ?_ (by omega) (by omega)
  refine jT_xaload_n (v := (4, 2)) (pcN := 1180) jI_379_1179 rfl rfl rfl ?_
  refine jT_fR [0, 2, 4, 5, 6, 7, 8, 9, 10, 11, 12, 13, 14, 30, 31, 32, 33, 34, 35, 36, 37, 38, 39, 40] 41 (y := 337) (pcN := 1183) (dC := 2) (bc1 := 1) (bc2 := 6) (c1 := 0) (c2 := 0) (as := [(4, 0), (0, 3), (0, x2), (4, 2)]) (asC := [(4, 0), (0, 3), (0, x2), (4, 1)]) (LN := [(5, (0, 0)), (4, (4, 3)), (3, (4, 2)), (2, (4, 1)), (1, (4, 0)), (0, (6, 0))]) (stN := []) (hsC := jpA_1872) (v := (0, 1)) (st2 := [(0, 1)]) (jA_337_497 (d := 0) (by omega)) (by rfl) (by rfl) (by decide +kernel) (by rfl) (by rfl) (by omega) (by omega) (by omega) (by omega) rfl ?_
  refine jT_xistore (v := (0, 1)) (LN := [(6, (0, 1)), (5, (0, 0)), (4, (4, 3)), (3, (4, 2)), (2, (4, 1)), (1, (4, 0)), (0, (6, 0))]) (pcN := 1185) jI_379_1183 rfl rfl rfl rfl ?_
  refine jT_xaload_n (v := (4, 1)) (pcN := 1186) jI_379_1185 rfl rfl rfl ?_
  refine jT_xaload_n (v := (6, 0)) (pcN := 1187) jI_379_1186 rfl rfl rfl ?_
  refine jT_xiload (v := (0, 0)) (pcN := 1189) jI_379_1187 rfl rfl rfl ?_
  refine jT_xiconst (k := 1) (pcN := 1190) jI_379_1189 rfl ?_
  refine jT_xiadd (x := 0) (y := 1) (z := 1) (pcN := 1191) jI_379_1190 rfl (by decide) rfl ?_
  refine jT_adv 1 (pcN := 1192) (LN := [(6, (0, 1)), (5, (0, 0)), (4, (4, 3)), (3, (4, 2)), (2, (4, 1)), (1, (4, 0)), (0, (6, 0))]) (stN := [(0, x1), (4, 1)]) (hsN := jpA_1933) (c1 := 0) (s1 := 0) (c2 := 0) (s2 := 0) (by exact rfl) ?_ (by omega) (by omega)
  refine jT_eq (LN := [(6, (0, 1)), (5, (0, 0)), (4, (4, 3)), (3, (4, 2)), (2, (4, 1)), (1, (4, 0)), (0, (6, 0))]) (stN := [(0, 3), (4, 1)]) (hsN := [jzA_265, jzA_266, jgh, jgh, jgh, jgh, jgh, jgh, jgh, jgh, jgh, jgh, jgh, jgh, jzA_322, (100, [], jS0), jgh, jgh, jgh, jgh, jgh, jgh, jgh, jgh, jgh, jgh, jgh, jgh, jgh, jgh, jgh, (117, [], [35, 36, 37, 38]), jgh, jgh, jgh, jgh, jgh, jgh, (7, [(4, 39), (4, (-1)), (4, (-1))], []), (114, [], [40]), jgh]) (rfl) (by simp only [List.cons.injEq, Prod.mk.injEq, and_true, true_and] <;> ((try unfold jw); (try unfold jwl); omega)) (rfl) ?_
  refine jT_xaload_n (v := (6, 0)) (pcN := 1193) jI_379_1192 rfl rfl rfl ?_
  refine jT_xiload (v := (0, 0)) (pcN := 1195) jI_379_1193 rfl rfl rfl ?_
  refine jT_xiconst (k := 2) (pcN := 1196) jI_379_1195 rfl ?_
  refine jT_xiadd (x := 0) (y := 2) (z := 2) (pcN := 1197) jI_379_1196 rfl (by decide) rfl ?_
  refine jT_adv 1 (pcN := 1198) (LN := [(6, (0, 1)), (5, (0, 0)), (4, (4, 3)), (3, (4, 2)), (2, (4, 1)), (1, (4, 0)), (0, (6, 0))]) (stN := [(0, x2), (0, 3), (4, 1)]) (hsN := jpA_1933) (c1 := 0) (s1 := 0) (c2 := 0) (s2 := 0) (by exact rfl) ?_ (by omega) (by omega)
  refine jT_fB [1, 15, 16, 17, 18, 19, 20, 21, 22, 23, 24, 25, 26, 27, 28, 29] 41 (y := 246) (pcN := 1201) (dC := 2) (bc1 := 0) (bc2 := 0) (c1 := 0) (c2 := 0) (as := [(4, 1), (0, 3), (0, x2)]) (asC := [(4, 0), (0, 3), (0, x2)]) (LN := [(6, (0, 1)), (5, (0, 0)), (4, (4, 3)), (3, (4, 2)), (2, (4, 1)), (1, (4, 0)), (0, (6, 0))]) (stN := []) (hsC := jpA_1519) (hsD := jpA_1820) (v := (0, 0)) (st2 := [(0, 0)]) (hs2 := jpA_1934) (jA_246_499 (d := 0) (by omega)) (by rfl) (by rfl) (by decide +kernel) (by rfl) (by rfl) (by omega) (by omega) (by omega) (by omega) rfl (by decide +kernel) ?_
  refine jT_xistore (v := (0, 0)) (LN := [(7, (0, 0)), (6, (0, 1)), (5, (0, 0)), (4, (4, 3)), (3, (4, 2)), (2, (4, 1)), (1, (4, 0)), (0, (6, 0))]) (pcN := 1203) jI_379_1201 rfl rfl rfl rfl ?_
  refine jT_xaload_n (v := (4, 1)) (pcN := 1204) jI_379_1203 rfl rfl rfl ?_
  refine jT_fR [1, 15, 16, 17, 18, 19, 20, 21, 22, 23, 24, 25, 26, 27, 28, 29] 41 (y := 186) (pcN := 1207) (dC := 0) (bc1 := 0) (bc2 := 0) (c1 := 0) (c2 := 0) (as := [(4, 1)]) (asC := [(4, 0)]) (LN := [(7, (0, 0)), (6, (0, 1)), (5, (0, 0)), (4, (4, 3)), (3, (4, 2)), (2, (4, 1)), (1, (4, 0)), (0, (6, 0))]) (stN := []) (hsC := jpA_20) (v := (0, 1)) (st2 := [(0, 1)]) (jA_186_8 (d := 0)) (by rfl) (by rfl) (by decide +kernel) (by rfl) (by rfl) (by omega) (by omega) (by omega) (by omega) rfl ?_
  refine jT_xiload (v := (0, 1)) (pcN := 1209) jI_379_1207 rfl rfl rfl ?_
  refine jT_xicT (pcN := 1214) jI_379_1209 rfl (by decide +kernel) rfl ?_
  refine jT_xiload (v := (0, 1)) (pcN := 1216) jI_379_1214 rfl rfl rfl ?_
  refine jT_xifT (pcN := 1231) jI_379_1216 rfl (by decide +kernel) rfl ?_
  refine jT_xgoto (pcN := 3740) jI_379_1231 rfl ?_
  refine jT_xiinc (x := 0) (z := 5) (LN := [(5, (0, 5)), (7, (0, 0)), (6, (0, 1)), (4, (4, 3)), (3, (4, 2)), (2, (4, 1)), (1, (4, 0)), (0, (6, 0))]) (pcN := 3743) jI_379_3740 rfl rfl (by decide) rfl rfl ?_
  refine jT_xgoto (pcN := 28) jI_379_3743 rfl ?_
  refine jT_xiload (v := (0, 5)) (pcN := 30) jI_379_28 rfl rfl rfl ?_
  refine jT_xaload_n (v := (6, 0)) (pcN := 31) jI_379_30 rfl rfl rfl ?_
  refine jT_adv 1 (pcN := 32) (LN := [(5, (0, 5)), (7, (0, 0)), (6, (0, 1)), (4, (4, 3)), (3, (4, 2)), (2, (4, 1)), (1, (4, 0)), (0, (6, 0))]) (stN := [(0, 5), (0, 5)]) (hsN := jpA_1934) (c1 := 0) (s1 := 0) (c2 := 0) (s2 := 0) (by exact rfl) ?_ (by omega) (by omega)
  refine jT_xiconst (k := 5) (pcN := 33) jI_379_32 rfl ?_
  refine jT_xisub (x := 5) (y := 5) (z := 0) (pcN := 34) jI_379_33 rfl (by decide) rfl ?_
  refine jT_xicT (pcN := 3746) jI_379_34 rfl (by decide +kernel) rfl ?_
  refine jT_xiconst (k := 1) (pcN := 3747) jI_379_3746 rfl ?_
  exact jT_ret rfl (by decide) (by show 41 ≤ 41; decide) (by omega) (by omega) ⟨rfl, rfl⟩
set_option maxRecDepth 100000 in
theorem jL_11_13 {d : Nat} {x0 x1 x2 x3 x4 : Int} (h_x0 : (-2147483648) ≤ x0 ∧ x0 ≤ 2147483647) (h_x1 : 4 ≤ x1 ∧ x1 ≤ 2147483647) (h_x2 : (-2147483648) ≤ x2 ∧ x2 ≤ 2147483647) (h_x3 : (-2147483648) ≤ x3 ∧ x3 ≤ 2147483647) (h_x4 : (-2147483648) ≤ x4 ∧ x4 ≤ 2147483647) : jT [x0, x1, x2, x3, x4] (d + 3) 379 30 1166 [(5, (0, 0)), (4, (4, 3)), (3, (4, 2)), (2, (4, 1)), (1, (4, 0)), (0, (6, 0))] [] jpA_267 1 6 (fun k v hsN => k = 0 ∧ v = (0, 1)) := by
  refine jT_xaload_n (v := (4, 0)) (pcN := 1167) jI_379_1166 rfl rfl rfl ?_
  refine jT_xaload_n (v := (6, 0)) (pcN := 1168) jI_379_1167 rfl rfl rfl ?_
  refine jT_xiload (v := (0, 0)) (pcN := 1170) jI_379_1168 rfl rfl rfl ?_
  refine jT_xiconst (k := 1) (pcN := 1171) jI_379_1170 rfl ?_
  refine jT_xiadd (x := 0) (y := 1) (z := 1) (pcN := 1172) jI_379_1171 rfl (by decide) rfl ?_
  refine jT_adv 1 (pcN := 1173) (LN := [(5, (0, 0)), (4, (4, 3)), (3, (4, 2)), (2, (4, 1)), (1, (4, 0)), (0, (6, 0))]) (stN := [(0, x1), (4, 0)]) (hsN := jpA_267) (c1 := 0) (s1 := 0) (c2 := 1) (s2 := 6) (by exact rfl) ?_ (by omega) (by omega)
  refine jT_xaload_n (v := (6, 0)) (pcN := 1174) jI_379_1173 rfl rfl rfl ?_
  refine jT_xiload (v := (0, 0)) (pcN := 1176) jI_379_1174 rfl rfl rfl ?_
  refine jT_xiconst (k := 2) (pcN := 1177) jI_379_1176 rfl ?_
  refine jT_xiadd (x := 0) (y := 2) (z := 2) (pcN := 1178) jI_379_1177 rfl (by decide) rfl ?_
  refine jT_adv 1 (pcN := 1179) (LN := [(5, (0, 0)), (4, (4, 3)), (3, (4, 2)), (2, (4, 1)), (1, (4, 0)), (0, (6, 0))]) (stN := [(0, x2), (0, x1), (4, 0)]) (hsN := jpA_267) (c1 := 0) (s1 := 0) (c2 := 1) (s2 := 6) (by exact rfl) ?_ (by omega) (by omega)
  refine jT_xaload_n (v := (4, 2)) (pcN := 1180) jI_379_1179 rfl rfl rfl ?_
  refine jT_fR [0, 2, 4, 5, 6, 7, 8, 9, 10, 11, 12, 13, 14] 30 (y := 337) (pcN := 1183) (dC := 2) (bc1 := 1) (bc2 := 6) (c1 := 0) (c2 := 0) (as := [(4, 0), (0, x1), (0, x2), (4, 2)]) (asC := [(4, 0), (0, x1), (0, x2), (4, 1)]) (LN := [(5, (0, 0)), (4, (4, 3)), (3, (4, 2)), (2, (4, 1)), (1, (4, 0)), (0, (6, 0))]) (stN := []) (hsC := jpA_15) (v := (0, 1)) (st2 := [(0, 1)]) (jA_337_501 (d := 0) (by omega) (by omega)) (by rfl) (by rfl) (by decide +kernel) (by rfl) (by rfl) (by omega) (by omega) (by omega) (by omega) rfl ?_
  refine jT_xistore (v := (0, 1)) (LN := [(6, (0, 1)), (5, (0, 0)), (4, (4, 3)), (3, (4, 2)), (2, (4, 1)), (1, (4, 0)), (0, (6, 0))]) (pcN := 1185) jI_379_1183 rfl rfl rfl rfl ?_
  refine jT_xaload_n (v := (4, 1)) (pcN := 1186) jI_379_1185 rfl rfl rfl ?_
  refine jT_xaload_n (v := (6, 0)) (pcN := 1187) jI_379_1186 rfl rfl rfl ?_
  refine jT_xiload (v := (0, 0)) (pcN := 1189) jI_379_1187 rfl rfl rfl ?_
  refine jT_xiconst (k := 1) (pcN := 1190) jI_379_1189 rfl ?_
  refine jT_xiadd (x := 0) (y := 1) (z := 1) (pcN := 1191) jI_379_1190 rfl (by decide) rfl ?_
  refine jT_adv 1 (pcN := 1192) (LN := [(6, (0, 1)), (5, (0, 0)), (4, (4, 3)), (3, (4, 2)), (2, (4, 1)), (1, (4, 0)), (0, (6, 0))]) (stN := [(0, x1), (4, 1)]) (hsN := jpA_267) (c1 := 0) (s1 := 0) (c2 := 0) (s2 := 0) (by exact rfl) ?_ (by omega) (by omega)
  refine jT_xaload_n (v := (6, 0)) (pcN := 1193) jI_379_1192 rfl rfl rfl ?_
  refine jT_xiload (v := (0, 0)) (pcN := 1195) jI_379_1193 rfl rfl rfl ?_
  refine jT_xiconst (k := 2) (pcN := 1196) jI_379_1195 rfl ?_
  refine jT_xiadd (x := 0) (y := 2) (z := 2) (pcN := 1197) jI_379_1196 rfl (by decide) rfl ?_
  refine jT_adv 1 (pcN := 1198) (LN := [(6, (0, 1)), (5, (0, 0)), (4, (4, 3)), (3, (4, 2)), (2, (4, 1)), (1, (4, 0)), (0, (6, 0))]) (stN := [(0, x2), (0, x1), (4, 1)]) (hsN := jpA_267) (c1 := 0) (s1 := 0) (c2 := 0) (s2 := 0) (by exact rfl) ?_ (by omega) (by omega)
  refine jT_fB [1, 15, 16, 17, 18, 19, 20, 21, 22, 23, 24, 25, 26, 27, 28, 29] 30 (y := 246) (pcN := 1201) (dC := 2) (bc1 := 0) (bc2 := 0) (c1 := 0) (c2 := 0) (as := [(4, 1), (0, x1), (0, x2)]) (asC := [(4, 0), (0, x1), (0, x2)]) (LN := [(6, (0, 1)), (5, (0, 0)), (4, (4, 3)), (3, (4, 2)), (2, (4, 1)), (1, (4, 0)), (0, (6, 0))]) (stN := []) (hsC := jpA_22) (hsD := jpA_20) (v := (0, 0)) (st2 := [(0, 0)]) (hs2 := jpA_306) (jA_246_502 (d := 0) (by omega) (by omega)) (by rfl) (by rfl) (by decide +kernel) (by rfl) (by rfl) (by omega) (by omega) (by omega) (by omega) rfl (by decide +kernel) ?_
  refine jT_xistore (v := (0, 0)) (LN := [(7, (0, 0)), (6, (0, 1)), (5, (0, 0)), (4, (4, 3)), (3, (4, 2)), (2, (4, 1)), (1, (4, 0)), (0, (6, 0))]) (pcN := 1203) jI_379_1201 rfl rfl rfl rfl ?_
  refine jT_xaload_n (v := (4, 1)) (pcN := 1204) jI_379_1203 rfl rfl rfl ?_
  refine jT_fR [1, 15, 16, 17, 18, 19, 20, 21, 22, 23, 24, 25, 26, 27, 28, 29] 30 (y := 186) (pcN := 1207) (dC := 0) (bc1 := 0) (bc2 := 0) (c1 := 0) (c2 := 0) (as := [(4, 1)]) (asC := [(4, 0)]) (LN := [(7, (0, 0)), (6, (0, 1)), (5, (0, 0)), (4, (4, 3)), (3, (4, 2)), (2, (4, 1)), (1, (4, 0)), (0, (6, 0))]) (stN := []) (hsC := jpA_20) (v := (0, 1)) (st2 := [(0, 1)]) (jA_186_8 (d := 0)) (by rfl) (by rfl) (by decide +kernel) (by rfl) (by rfl) (by omega) (by omega) (by omega) (by omega) rfl ?_
  refine jT_xiload (v := (0, 1)) (pcN := 1209) jI_379_1207 rfl rfl rfl ?_
  refine jT_xicT (pcN := 1214) jI_379_1209 rfl (by decide +kernel) rfl ?_
  refine jT_xiload (v := (0, 1)) (pcN := 1216) jI_379_1214 rfl rfl rfl ?_
  refine jT_xifT (pcN := 1231) jI_379_1216 rfl (by decide +kernel) rfl ?_
  refine jT_xgoto (pcN := 3740) jI_379_1231 rfl ?_
  refine jT_xiinc (x := 0) (z := 5) (LN := [(5, (0, 5)), (7, (0, 0)), (6, (0, 1)), (4, (4, 3)), (3, (4, 2)), (2, (4, 1)), (1, (4, 0)), (0, (6, 0))]) (pcN := 3743) jI_379_3740 rfl rfl (by decide) rfl rfl ?_
  refine jT_xgoto (pcN := 28) jI_379_3743 rfl ?_
  refine jT_xiload (v := (0, 5)) (pcN := 30) jI_379_28 rfl rfl rfl ?_
  refine jT_xaload_n (v := (6, 0)) (pcN := 31) jI_379_30 rfl rfl rfl ?_
  refine jT_adv 1 (pcN := 32) (LN := [(5, (0, 5)), (7, (0, 0)), (6, (0, 1)), (4, (4, 3)), (3, (4, 2)), (2, (4, 1)), (1, (4, 0)), (0, (6, 0))]) (stN := [(0, 5), (0, 5)]) (hsN := jpA_306) (c1 := 0) (s1 := 0) (c2 := 0) (s2 := 0) (by exact rfl) ?_ (by omega) (by omega)
  refine jT_xiconst (k := 5) (pcN := 33) jI_379_32 rfl ?_
  refine jT_xisub (x := 5) (y := 5) (z := 0) (pcN := 34) jI_379_33 rfl (by decide) rfl ?_
  refine jT_xicT (pcN := 3746) jI_379_34 rfl (by decide +kernel) rfl ?_
  refine jT_xiconst (k := 1) (pcN := 3747) jI_379_3746 rfl ?_
  exact jT_ret rfl (by decide) (by show 30 ≤ 30; decide) (by omega) (by omega) ⟨rfl, rfl⟩
theorem jI_130_0 : jmI (jm 130) 0 = (.aload_n 0, 1) := by rfl
theorem jI_130_1 : jmI (jm 130) 1 = (.iload_n 1, 1) := by rfl
theorem jI_130_2 : jmI (jm 130) 2 = (.iconst 4, 1) := by rfl
theorem jA_130_503 {xs : List Int} {d : Nat} {x1 x2 x3 : Int} (h_x1 : (-2147483648) ≤ x1 ∧ x1 ≤ (-1)) (h_x2 : (-2147483648) ≤ x2 ∧ x2 ≤ 2147483647) (h_x3 : (-2147483648) ≤ x3 ∧ x3 ≤ 2147483647) : jT xs (d + 1) 130 12 0 [(0, (4, 0)), (1, (0, x1)), (2, (0, x2)), (3, (0, x3))] [] jpA_6 1 6 (fun k v hsN => k = 1 ∧ v = (0, 0) ∧ hsN = jpA_6 ++ []) := by
  refine jT_xaload_n (v := (4, 0)) (pcN := 1) jI_130_0 rfl rfl rfl ?_
  refine jT_xiload_n (v := (0, x1)) (pcN := 2) jI_130_1 rfl rfl rfl ?_
  refine jT_xiconst (k := 4) (pcN := 3) jI_130_2 rfl ?_
  exact jT_fX [0] 12 (y := 115) (pcN := 6) (dC := 0) (bc1 := 1) (bc2 := 6) (as := [(4, 0), (0, x1), (0, 4)]) (asC := [(4, 0), (0, x1), (0, 4)]) (LN := [(0, (4, 0)), (1, (0, x1)), (2, (0, x2)), (3, (0, x3))]) (stN := []) (hsC := [jgh]) (e := 0) (jA_115_310 (d := 0) (by omega)) (by rfl) (by rfl) (by decide +kernel) (by rfl) (by rfl) (by omega) (by omega) (by omega) (by omega) ⟨rfl, ⟨rfl, rfl, rfl⟩⟩
theorem jI_338_0 : jmI (jm 338) 0 = (.aload 4, 2) := by rfl
theorem jI_338_2 : jmI (jm 338) 2 = (.iconst 0, 1) := by rfl
theorem jI_338_3 : jmI (jm 338) 3 = (.aload_n 0, 1) := by rfl
theorem jI_338_4 : jmI (jm 338) 4 = (.iload_n 1, 1) := by rfl
theorem jI_338_5 : jmI (jm 338) 5 = (.iload_n 2, 1) := by rfl
theorem jI_338_6 : jmI (jm 338) 6 = (.iload_n 3, 1) := by rfl
theorem jA_338_504 {xs : List Int} {d : Nat} {x1 x2 x3 : Int} (h_x1 : (-2147483648) ≤ x1 ∧ x1 ≤ (-1)) (h_x2 : (-2147483648) ≤ x2 ∧ x2 ≤ 2147483647) (h_x3 : (-2147483648) ≤ x3 ∧ x3 ≤ 2147483647) : jT xs (d + 2) 338 13 0 [(0, (4, 0)), (1, (0, x1)), (2, (0, x2)), (3, (0, x3)), (4, (4, 1))] [] jpA_15 1 6 (fun k v hsN => k = 0 ∧ v = (0, 1) ∧ hsN = jpA_15 ++ []) := by
  refine jT_xaload (v := (4, 1)) (pcN := 2) jI_338_0 rfl rfl rfl ?_
  refine jT_xiconst (k := 0) (pcN := 3) jI_338_2 rfl ?_
  refine jT_xaload_n (v := (4, 0)) (pcN := 4) jI_338_3 rfl rfl rfl ?_
  refine jT_xiload_n (v := (0, x1)) (pcN := 5) jI_338_4 rfl rfl rfl ?_
  refine jT_xiload_n (v := (0, x2)) (pcN := 6) jI_338_5 rfl rfl rfl ?_
  refine jT_xiload_n (v := (0, x3)) (pcN := 7) jI_338_6 rfl rfl rfl ?_
  exact jT_fX [0, 2, 3, 4, 5, 6, 7, 8, 9, 10, 11, 12] 13 (y := 130) (pcN := 10) (dC := 1) (bc1 := 1) (bc2 := 6) (as := [(4, 0), (0, x1), (0, x2), (0, x3)]) (asC := [(4, 0), (0, x1), (0, x2), (0, x3)]) (LN := [(0, (4, 0)), (1, (0, x1)), (2, (0, x2)), (3, (0, x3)), (4, (4, 1))]) (stN := [(0, 0), (4, 1)]) (hsC := jpA_6) (e := 0) (jA_130_503 (d := 0) (by omega) (by omega) (by omega)) (by rfl) (by rfl) (by decide +kernel) (by rfl) (by rfl) (by omega) (by omega) (by omega) (by omega) (show _ from ⟨rfl, rfl, rfl⟩)
theorem jI_249_0 : jmI (jm 249) 0 = (.aload_n 0, 1) := by rfl
theorem jI_249_1 : jmI (jm 249) 1 = (.iload_n 1, 1) := by rfl
theorem jI_249_5 : jmI (jm 249) 5 = (.ifCond .eq 21, 3) := by rfl
theorem jI_249_26 : jmI (jm 249) 26 = (.iconst 0, 1) := by rfl
theorem jI_249_30 : jmI (jm 249) 30 = (.ifCond .eq 5, 3) := by rfl
theorem jI_249_33 : jmI (jm 249) 33 = (.iconst 0, 1) := by rfl
theorem jA_249_505 {xs : List Int} {d : Nat} {x1 x2 x3 : Int} (h_x1 : (-2147483648) ≤ x1 ∧ x1 ≤ (-1)) (h_x2 : (-2147483648) ≤ x2 ∧ x2 ≤ 2147483647) (h_x3 : (-2147483648) ≤ x3 ∧ x3 ≤ 2147483647) : jT xs (d + 2) 249 16 0 [(0, (4, 0)), (1, (0, x1)), (2, (0, x2)), (3, (0, x3))] [] jpA_22 0 0 (fun k v hsN => k = 0 ∧ v = (0, 0) ∧ hsN = jpA_20) := by
  refine jT_xaload_n (v := (4, 0)) (pcN := 1) jI_249_0 rfl rfl rfl ?_
  refine jT_xiload_n (v := (0, x1)) (pcN := 2) jI_249_1 rfl rfl rfl ?_
  refine jT_fR [] 16 (y := 238) (pcN := 5) (dC := 1) (bc1 := 0) (bc2 := 0) (c1 := 0) (c2 := 0) (as := [(0, x1)]) (asC := [(0, x1)]) (LN := [(0, (4, 0)), (1, (0, x1)), (2, (0, x2)), (3, (0, x3))]) (stN := [(4, 0)]) (hsC := []) (v := (0, 0)) (st2 := [(0, 0), (4, 0)]) (jA_238_313 (d := 0) (by omega)) (by rfl) (by rfl) (by decide +kernel) (by rfl) (by rfl) (by omega) (by omega) (by omega) (by omega) rfl ?_
  refine jT_xifT (pcN := 26) jI_249_5 rfl (by decide +kernel) rfl ?_
  refine jT_xiconst (k := 0) (pcN := 27) jI_249_26 rfl ?_
  refine jT_fB [0, 1, 2, 3, 4, 5, 6, 7, 8, 9, 10, 11, 12, 13, 14, 15] 16 (y := 190) (pcN := 30) (dC := 1) (bc1 := 0) (bc2 := 0) (c1 := 0) (c2 := 0) (as := [(4, 0), (0, 0)]) (asC := [(4, 0), (0, 0)]) (LN := [(0, (4, 0)), (1, (0, x1)), (2, (0, x2)), (3, (0, x3))]) (stN := []) (hsC := jpA_22) (hsD := jpA_20) (v := (0, 1)) (st2 := [(0, 1)]) (hs2 := jpA_20) (jA_190_6 (d := 0)) (by rfl) (by rfl) (by decide +kernel) (by rfl) (by rfl) (by omega) (by omega) (by omega) (by omega) rfl (by decide +kernel) ?_
  refine jT_xifF (t := 35) (pcN := 33) jI_249_30 rfl (by decide +kernel) rfl rfl ?_
  refine jT_xiconst (k := 0) (pcN := 34) jI_249_33 rfl ?_
  exact jT_ret rfl (by decide) (by show 16 ≤ 16; decide) (by omega) (by omega) ⟨rfl, rfl, rfl⟩
theorem jI_130_6 : jmI (jm 130) 6 = (.aload_n 0, 1) := by rfl
theorem jI_130_7 : jmI (jm 130) 7 = (.iload_n 2, 1) := by rfl
theorem jI_130_8 : jmI (jm 130) 8 = (.bipush 8, 2) := by rfl
theorem jA_130_506 {xs : List Int} {d : Nat} {x1 x2 x3 : Int} (h_x1 : 0 ≤ x1 ∧ x1 ≤ 3) (h_x2 : (-2147483648) ≤ x2 ∧ x2 ≤ (-1)) (h_x3 : (-2147483648) ≤ x3 ∧ x3 ≤ 2147483647) : jT xs (d + 1) 130 12 0 [(0, (4, 0)), (1, (0, x1)), (2, (0, x2)), (3, (0, x3))] [] jpA_6 1 6 (fun k v hsN => k = 1 ∧ v = (0, 0) ∧ hsN = jpA_6 ++ []) := by
  refine jT_xaload_n (v := (4, 0)) (pcN := 1) jI_130_0 rfl rfl rfl ?_
  refine jT_xiload_n (v := (0, x1)) (pcN := 2) jI_130_1 rfl rfl rfl ?_
  refine jT_xiconst (k := 4) (pcN := 3) jI_130_2 rfl ?_
  refine jT_fR [0] 12 (y := 115) (pcN := 6) (dC := 0) (bc1 := 0) (bc2 := 0) (c1 := 1) (c2 := 6) (as := [(4, 0), (0, x1), (0, 4)]) (asC := [(4, 0), (0, x1), (0, 4)]) (LN := [(0, (4, 0)), (1, (0, x1)), (2, (0, x2)), (3, (0, x3))]) (stN := []) (hsC := [jgh]) (v := (9, 0)) (st2 := []) (jA_115_315 (d := 0) (by omega)) (by rfl) (by rfl) (by decide +kernel) (by rfl) (by rfl) (by omega) (by omega) (by omega) (by omega) rfl ?_
  refine jT_xaload_n (v := (4, 0)) (pcN := 7) jI_130_6 rfl rfl rfl ?_
  refine jT_xiload_n (v := (0, x2)) (pcN := 8) jI_130_7 rfl rfl rfl ?_
  refine jT_xbipush (k := 8) (pcN := 10) jI_130_8 (by decide) rfl ?_
  exact jT_fX [0] 12 (y := 115) (pcN := 13) (dC := 0) (bc1 := 1) (bc2 := 6) (as := [(4, 0), (0, x2), (0, 8)]) (asC := [(4, 0), (0, x2), (0, 8)]) (LN := [(0, (4, 0)), (1, (0, x1)), (2, (0, x2)), (3, (0, x3))]) (stN := []) (hsC := [jgh]) (e := 0) (jA_115_10 (d := 0) (by omega)) (by rfl) (by rfl) (by decide +kernel) (by rfl) (by rfl) (by omega) (by omega) (by omega) (by omega) ⟨rfl, ⟨rfl, rfl, rfl⟩⟩
theorem jA_338_507 {xs : List Int} {d : Nat} {x1 x2 x3 : Int} (h_x1 : 0 ≤ x1 ∧ x1 ≤ 3) (h_x2 : (-2147483648) ≤ x2 ∧ x2 ≤ (-1)) (h_x3 : (-2147483648) ≤ x3 ∧ x3 ≤ 2147483647) : jT xs (d + 2) 338 13 0 [(0, (4, 0)), (1, (0, x1)), (2, (0, x2)), (3, (0, x3)), (4, (4, 1))] [] jpA_15 1 6 (fun k v hsN => k = 0 ∧ v = (0, 1) ∧ hsN = jpA_15 ++ []) := by
  refine jT_xaload (v := (4, 1)) (pcN := 2) jI_338_0 rfl rfl rfl ?_
  refine jT_xiconst (k := 0) (pcN := 3) jI_338_2 rfl ?_
  refine jT_xaload_n (v := (4, 0)) (pcN := 4) jI_338_3 rfl rfl rfl ?_
  refine jT_xiload_n (v := (0, x1)) (pcN := 5) jI_338_4 rfl rfl rfl ?_
  refine jT_xiload_n (v := (0, x2)) (pcN := 6) jI_338_5 rfl rfl rfl ?_
  refine jT_xiload_n (v := (0, x3)) (pcN := 7) jI_338_6 rfl rfl rfl ?_
  exact jT_fX [0, 2, 3, 4, 5, 6, 7, 8, 9, 10, 11, 12] 13 (y := 130) (pcN := 10) (dC := 1) (bc1 := 1) (bc2 := 6) (as := [(4, 0), (0, x1), (0, x2), (0, x3)]) (asC := [(4, 0), (0, x1), (0, x2), (0, x3)]) (LN := [(0, (4, 0)), (1, (0, x1)), (2, (0, x2)), (3, (0, x3)), (4, (4, 1))]) (stN := [(0, 0), (4, 1)]) (hsC := jpA_6) (e := 0) (jA_130_506 (d := 0) (by omega) (by omega) (by omega)) (by rfl) (by rfl) (by decide +kernel) (by rfl) (by rfl) (by omega) (by omega) (by omega) (by omega) (show _ from ⟨rfl, rfl, rfl⟩)
theorem jI_249_8 : jmI (jm 249) 8 = (.iload_n 2, 1) := by rfl
theorem jI_249_12 : jmI (jm 249) 12 = (.ifCond .eq 14, 3) := by rfl
theorem jA_249_508 {xs : List Int} {d : Nat} {x1 x2 x3 : Int} (h_x1 : 0 ≤ x1 ∧ x1 ≤ 3) (h_x2 : (-2147483648) ≤ x2 ∧ x2 ≤ (-1)) (h_x3 : (-2147483648) ≤ x3 ∧ x3 ≤ 2147483647) : jT xs (d + 2) 249 16 0 [(0, (4, 0)), (1, (0, x1)), (2, (0, x2)), (3, (0, x3))] [] jpA_22 0 0 (fun k v hsN => k = 0 ∧ v = (0, 0) ∧ hsN = jpA_20) := by
  refine jT_xaload_n (v := (4, 0)) (pcN := 1) jI_249_0 rfl rfl rfl ?_
  refine jT_xiload_n (v := (0, x1)) (pcN := 2) jI_249_1 rfl rfl rfl ?_
  refine jT_fR [] 16 (y := 238) (pcN := 5) (dC := 1) (bc1 := 0) (bc2 := 0) (c1 := 0) (c2 := 0) (as := [(0, x1)]) (asC := [(0, x1)]) (LN := [(0, (4, 0)), (1, (0, x1)), (2, (0, x2)), (3, (0, x3))]) (stN := [(4, 0)]) (hsC := []) (v := (0, 1)) (st2 := [(0, 1), (4, 0)]) (jA_238_318 (d := 0) (by omega)) (by rfl) (by rfl) (by decide +kernel) (by rfl) (by rfl) (by omega) (by omega) (by omega) (by omega) rfl ?_
  refine jT_xifF (t := 26) (pcN := 8) jI_249_5 rfl (by decide +kernel) rfl rfl ?_
  refine jT_xiload_n (v := (0, x2)) (pcN := 9) jI_249_8 rfl rfl rfl ?_
  refine jT_fR [] 16 (y := 188) (pcN := 12) (dC := 1) (bc1 := 0) (bc2 := 0) (c1 := 0) (c2 := 0) (as := [(0, x2)]) (asC := [(0, x2)]) (LN := [(0, (4, 0)), (1, (0, x1)), (2, (0, x2)), (3, (0, x3))]) (stN := [(4, 0)]) (hsC := []) (v := (0, 0)) (st2 := [(0, 0), (4, 0)]) (jA_188_14 (d := 0) (by omega)) (by rfl) (by rfl) (by decide +kernel) (by rfl) (by rfl) (by omega) (by omega) (by omega) (by omega) rfl ?_
  refine jT_xifT (pcN := 26) jI_249_12 rfl (by decide +kernel) rfl ?_
  refine jT_xiconst (k := 0) (pcN := 27) jI_249_26 rfl ?_
  refine jT_fB [0, 1, 2, 3, 4, 5, 6, 7, 8, 9, 10, 11, 12, 13, 14, 15] 16 (y := 190) (pcN := 30) (dC := 1) (bc1 := 0) (bc2 := 0) (c1 := 0) (c2 := 0) (as := [(4, 0), (0, 0)]) (asC := [(4, 0), (0, 0)]) (LN := [(0, (4, 0)), (1, (0, x1)), (2, (0, x2)), (3, (0, x3))]) (stN := []) (hsC := jpA_22) (hsD := jpA_20) (v := (0, 1)) (st2 := [(0, 1)]) (hs2 := jpA_20) (jA_190_6 (d := 0)) (by rfl) (by rfl) (by decide +kernel) (by rfl) (by rfl) (by omega) (by omega) (by omega) (by omega) rfl (by decide +kernel) ?_
  refine jT_xifF (t := 35) (pcN := 33) jI_249_30 rfl (by decide +kernel) rfl rfl ?_
  refine jT_xiconst (k := 0) (pcN := 34) jI_249_33 rfl ?_
  exact jT_ret rfl (by decide) (by show 16 ≤ 16; decide) (by omega) (by omega) ⟨rfl, rfl, rfl⟩
theorem jI_130_13 : jmI (jm 130) 13 = (.aload_n 0, 1) := by rfl
theorem jI_130_14 : jmI (jm 130) 14 = (.iload_n 3, 1) := by rfl
theorem jI_130_15 : jmI (jm 130) 15 = (.bipush 8, 2) := by rfl
theorem jA_130_509 {xs : List Int} {d : Nat} {x1 x2 x3 : Int} (h_x1 : 0 ≤ x1 ∧ x1 ≤ 3) (h_x2 : 0 ≤ x2 ∧ x2 ≤ 7) (h_x3 : (-2147483648) ≤ x3 ∧ x3 ≤ (-1)) : jT xs (d + 1) 130 12 0 [(0, (4, 0)), (1, (0, x1)), (2, (0, x2)), (3, (0, x3))] [] jpA_6 1 6 (fun k v hsN => k = 1 ∧ v = (0, 0) ∧ hsN = jpA_6 ++ []) := by
  refine jT_xaload_n (v := (4, 0)) (pcN := 1) jI_130_0 rfl rfl rfl ?_
  refine jT_xiload_n (v := (0, x1)) (pcN := 2) jI_130_1 rfl rfl rfl ?_
  refine jT_xiconst (k := 4) (pcN := 3) jI_130_2 rfl ?_
  refine jT_fR [0] 12 (y := 115) (pcN := 6) (dC := 0) (bc1 := 0) (bc2 := 0) (c1 := 1) (c2 := 6) (as := [(4, 0), (0, x1), (0, 4)]) (asC := [(4, 0), (0, x1), (0, 4)]) (LN := [(0, (4, 0)), (1, (0, x1)), (2, (0, x2)), (3, (0, x3))]) (stN := []) (hsC := [jgh]) (v := (9, 0)) (st2 := []) (jA_115_315 (d := 0) (by omega)) (by rfl) (by rfl) (by decide +kernel) (by rfl) (by rfl) (by omega) (by omega) (by omega) (by omega) rfl ?_
  refine jT_xaload_n (v := (4, 0)) (pcN := 7) jI_130_6 rfl rfl rfl ?_
  refine jT_xiload_n (v := (0, x2)) (pcN := 8) jI_130_7 rfl rfl rfl ?_
  refine jT_xbipush (k := 8) (pcN := 10) jI_130_8 (by decide) rfl ?_
  refine jT_fR [0] 12 (y := 115) (pcN := 13) (dC := 0) (bc1 := 0) (bc2 := 0) (c1 := 1) (c2 := 6) (as := [(4, 0), (0, x2), (0, 8)]) (asC := [(4, 0), (0, x2), (0, 8)]) (LN := [(0, (4, 0)), (1, (0, x1)), (2, (0, x2)), (3, (0, x3))]) (stN := []) (hsC := [jgh]) (v := (9, 0)) (st2 := []) (jA_115_16 (d := 0) (by omega)) (by rfl) (by rfl) (by decide +kernel) (by rfl) (by rfl) (by omega) (by omega) (by omega) (by omega) rfl ?_
  refine jT_xaload_n (v := (4, 0)) (pcN := 14) jI_130_13 rfl rfl rfl ?_
  refine jT_xiload_n (v := (0, x3)) (pcN := 15) jI_130_14 rfl rfl rfl ?_
  refine jT_xbipush (k := 8) (pcN := 17) jI_130_15 (by decide) rfl ?_
  exact jT_fX [0] 12 (y := 115) (pcN := 20) (dC := 0) (bc1 := 1) (bc2 := 6) (as := [(4, 0), (0, x3), (0, 8)]) (asC := [(4, 0), (0, x3), (0, 8)]) (LN := [(0, (4, 0)), (1, (0, x1)), (2, (0, x2)), (3, (0, x3))]) (stN := []) (hsC := [jgh]) (e := 0) (jA_115_17 (d := 0) (by omega)) (by rfl) (by rfl) (by decide +kernel) (by rfl) (by rfl) (by omega) (by omega) (by omega) (by omega) ⟨rfl, ⟨rfl, rfl, rfl⟩⟩
theorem jA_338_510 {xs : List Int} {d : Nat} {x1 x2 x3 : Int} (h_x1 : 0 ≤ x1 ∧ x1 ≤ 3) (h_x2 : 0 ≤ x2 ∧ x2 ≤ 7) (h_x3 : (-2147483648) ≤ x3 ∧ x3 ≤ (-1)) : jT xs (d + 2) 338 13 0 [(0, (4, 0)), (1, (0, x1)), (2, (0, x2)), (3, (0, x3)), (4, (4, 1))] [] jpA_15 1 6 (fun k v hsN => k = 0 ∧ v = (0, 1) ∧ hsN = jpA_15 ++ []) := by
  refine jT_xaload (v := (4, 1)) (pcN := 2) jI_338_0 rfl rfl rfl ?_
  refine jT_xiconst (k := 0) (pcN := 3) jI_338_2 rfl ?_
  refine jT_xaload_n (v := (4, 0)) (pcN := 4) jI_338_3 rfl rfl rfl ?_
  refine jT_xiload_n (v := (0, x1)) (pcN := 5) jI_338_4 rfl rfl rfl ?_
  refine jT_xiload_n (v := (0, x2)) (pcN := 6) jI_338_5 rfl rfl rfl ?_
  refine jT_xiload_n (v := (0, x3)) (pcN := 7) jI_338_6 rfl rfl rfl ?_
  exact jT_fX [0, 2, 3, 4, 5, 6, 7, 8, 9, 10, 11, 12] 13 (y := 130) (pcN := 10) (dC := 1) (bc1 := 1) (bc2 := 6) (as := [(4, 0), (0, x1), (0, x2), (0, x3)]) (asC := [(4, 0), (0, x1), (0, x2), (0, x3)]) (LN := [(0, (4, 0)), (1, (0, x1)), (2, (0, x2)), (3, (0, x3)), (4, (4, 1))]) (stN := [(0, 0), (4, 1)]) (hsC := jpA_6) (e := 0) (jA_130_509 (d := 0) (by omega) (by omega) (by omega)) (by rfl) (by rfl) (by decide +kernel) (by rfl) (by rfl) (by omega) (by omega) (by omega) (by omega) (show _ from ⟨rfl, rfl, rfl⟩)
theorem jI_249_15 : jmI (jm 249) 15 = (.iload_n 3, 1) := by rfl
theorem jI_249_19 : jmI (jm 249) 19 = (.ifCond .eq 7, 3) := by rfl
theorem jA_249_511 {xs : List Int} {d : Nat} {x1 x2 x3 : Int} (h_x1 : 0 ≤ x1 ∧ x1 ≤ 3) (h_x2 : 0 ≤ x2 ∧ x2 ≤ 7) (h_x3 : (-2147483648) ≤ x3 ∧ x3 ≤ (-1)) : jT xs (d + 2) 249 16 0 [(0, (4, 0)), (1, (0, x1)), (2, (0, x2)), (3, (0, x3))] [] jpA_22 0 0 (fun k v hsN => k = 0 ∧ v = (0, 0) ∧ hsN = jpA_20) := by
  refine jT_xaload_n (v := (4, 0)) (pcN := 1) jI_249_0 rfl rfl rfl ?_
  refine jT_xiload_n (v := (0, x1)) (pcN := 2) jI_249_1 rfl rfl rfl ?_
  refine jT_fR [] 16 (y := 238) (pcN := 5) (dC := 1) (bc1 := 0) (bc2 := 0) (c1 := 0) (c2 := 0) (as := [(0, x1)]) (asC := [(0, x1)]) (LN := [(0, (4, 0)), (1, (0, x1)), (2, (0, x2)), (3, (0, x3))]) (stN := [(4, 0)]) (hsC := []) (v := (0, 1)) (st2 := [(0, 1), (4, 0)]) (jA_238_318 (d := 0) (by omega)) (by rfl) (by rfl) (by decide +kernel) (by rfl) (by rfl) (by omega) (by omega) (by omega) (by omega) rfl ?_
  refine jT_xifF (t := 26) (pcN := 8) jI_249_5 rfl (by decide +kernel) rfl rfl ?_
  refine jT_xiload_n (v := (0, x2)) (pcN := 9) jI_249_8 rfl rfl rfl ?_
  refine jT_fR [] 16 (y := 188) (pcN := 12) (dC := 1) (bc1 := 0) (bc2 := 0) (c1 := 0) (c2 := 0) (as := [(0, x2)]) (asC := [(0, x2)]) (LN := [(0, (4, 0)), (1, (0, x1)), (2, (0, x2)), (3, (0, x3))]) (stN := [(4, 0)]) (hsC := []) (v := (0, 1)) (st2 := [(0, 1), (4, 0)]) (jA_188_20 (d := 0) (by omega)) (by rfl) (by rfl) (by decide +kernel) (by rfl) (by rfl) (by omega) (by omega) (by omega) (by omega) rfl ?_
  refine jT_xifF (t := 26) (pcN := 15) jI_249_12 rfl (by decide +kernel) rfl rfl ?_
  refine jT_xiload_n (v := (0, x3)) (pcN := 16) jI_249_15 rfl rfl rfl ?_
  refine jT_fR [] 16 (y := 188) (pcN := 19) (dC := 1) (bc1 := 0) (bc2 := 0) (c1 := 0) (c2 := 0) (as := [(0, x3)]) (asC := [(0, x3)]) (LN := [(0, (4, 0)), (1, (0, x1)), (2, (0, x2)), (3, (0, x3))]) (stN := [(4, 0)]) (hsC := []) (v := (0, 0)) (st2 := [(0, 0), (4, 0)]) (jA_188_21 (d := 0) (by omega)) (by rfl) (by rfl) (by decide +kernel) (by rfl) (by rfl) (by omega) (by omega) (by omega) (by omega) rfl ?_
  refine jT_xifT (pcN := 26) jI_249_19 rfl (by decide +kernel) rfl ?_
  refine jT_xiconst (k := 0) (pcN := 27) jI_249_26 rfl ?_
  refine jT_fB [0, 1, 2, 3, 4, 5, 6, 7, 8, 9, 10, 11, 12, 13, 14, 15] 16 (y := 190) (pcN := 30) (dC := 1) (bc1 := 0) (bc2 := 0) (c1 := 0) (c2 := 0) (as := [(4, 0), (0, 0)]) (asC := [(4, 0), (0, 0)]) (LN := [(0, (4, 0)), (1, (0, x1)), (2, (0, x2)), (3, (0, x3))]) (stN := []) (hsC := jpA_22) (hsD := jpA_20) (v := (0, 1)) (st2 := [(0, 1)]) (hs2 := jpA_20) (jA_190_6 (d := 0)) (by rfl) (by rfl) (by decide +kernel) (by rfl) (by rfl) (by omega) (by omega) (by omega) (by omega) rfl (by decide +kernel) ?_
  refine jT_xifF (t := 35) (pcN := 33) jI_249_30 rfl (by decide +kernel) rfl rfl ?_
  refine jT_xiconst (k := 0) (pcN := 34) jI_249_33 rfl ?_
  exact jT_ret rfl (by decide) (by show 16 ≤ 16; decide) (by omega) (by omega) ⟨rfl, rfl, rfl⟩
theorem jA_17_512 {xs : List Int} {d : Nat} : jT xs d 17 2 0 [(0, (4, 0))] [] [(4, [(4, 1), (1, 1)], []), (101, [], [0, 0, 0, 0, 0, 0])] 0 0 (fun k v hsN => k = 0 ∧ v = (0, 1) ∧ hsN = [(4, [(4, 1), (1, 1)], []), (101, [], [0, 0, 0, 0, 0, 0])] ++ []) := by
  refine jT_advK 28 (pcN := 47) (LN := [(0, (4, 0))]) (stN := [(0, 1)]) (hsN := [(4, [(4, 1), (1, 1)], []), (101, [], [0, 0, 0, 0, 0, 0])]) (c1 := 0) (s1 := 0) (c2 := 0) (s2 := 0) (by decide +kernel) ?_ (by omega) (by omega)
  exact jT_ret rfl (by decide) (by show 2 ≤ 2; decide) (by omega) (by omega) ⟨rfl, rfl, rfl⟩
theorem jI_130_20 : jmI (jm 130) 20 = (.aload_n 0, 1) := by rfl
theorem jI_130_21 : jmI (jm 130) 21 = (.getfield 67, 3) := by rfl
theorem jI_130_24 : jmI (jm 130) 24 = (.iload_n 2, 1) := by rfl
theorem jI_130_28 : jmI (jm 130) 28 = (.astore 4, 2) := by rfl
theorem jI_130_30 : jmI (jm 130) 30 = (.aload_n 0, 1) := by rfl
theorem jI_130_31 : jmI (jm 130) 31 = (.getfield 67, 3) := by rfl
theorem jI_130_34 : jmI (jm 130) 34 = (.iload_n 3, 1) := by rfl
theorem jI_130_38 : jmI (jm 130) 38 = (.astore 5, 2) := by rfl
theorem jI_130_40 : jmI (jm 130) 40 = (.aload 4, 2) := by rfl
theorem jI_130_45 : jmI (jm 130) 45 = (.ifCond .eq 11, 3) := by rfl
theorem jI_130_48 : jmI (jm 130) 48 = (.aload 5, 2) := by rfl
theorem jI_130_53 : jmI (jm 130) 53 = (.ifCond .ne 13, 3) := by rfl
theorem jI_130_66 : jmI (jm 130) 66 = (.aload 4, 2) := by rfl
theorem jI_130_68 : jmI (jm 130) 68 = (.getfield 209, 3) := by rfl
theorem jI_130_71 : jmI (jm 130) 71 = (.iconst 1, 1) := by rfl
theorem jI_130_72 : jmI (jm 130) 72 = (.laload, 1) := by rfl
def jpA_1979 : List JC := [jzA_5, jgh, jgh, jgh, jgh, jgh, jgh, jgh, jgh, jgh, jgh, jzA_88, jzA_89, jgh, jgh, jgh, jgh, (4, [(4, 18), (1, 1)], []), (101, [], [0, 0, 0, 0, 0, 0])]
theorem jI_130_73 : jmI (jm 130) 73 = (.aload 5, 2) := by rfl
theorem jI_130_75 : jmI (jm 130) 75 = (.getfield 209, 3) := by rfl
theorem jI_130_78 : jmI (jm 130) 78 = (.iconst 2, 1) := by rfl
theorem jI_130_79 : jmI (jm 130) 79 = (.laload, 1) := by rfl
theorem jI_130_80 : jmI (jm 130) 80 = (.lmul, 1) := by rfl
theorem jI_130_81 : jmI (jm 130) 81 = (.aload 5, 2) := by rfl
theorem jI_130_83 : jmI (jm 130) 83 = (.getfield 209, 3) := by rfl
theorem jI_130_86 : jmI (jm 130) 86 = (.iconst 1, 1) := by rfl
theorem jI_130_87 : jmI (jm 130) 87 = (.laload, 1) := by rfl
theorem jI_130_88 : jmI (jm 130) 88 = (.aload 4, 2) := by rfl
theorem jI_130_90 : jmI (jm 130) 90 = (.getfield 209, 3) := by rfl
theorem jI_130_93 : jmI (jm 130) 93 = (.iconst 2, 1) := by rfl
theorem jI_130_94 : jmI (jm 130) 94 = (.laload, 1) := by rfl
theorem jI_130_95 : jmI (jm 130) 95 = (.lmul, 1) := by rfl
theorem jI_130_96 : jmI (jm 130) 96 = (.lsub, 1) := by rfl
theorem jI_130_97 : jmI (jm 130) 97 = (.lstore 6, 2) := by rfl
theorem jI_130_99 : jmI (jm 130) 99 = (.lload 6, 2) := by rfl
theorem jI_130_101 : jmI (jm 130) 101 = (.lconst 0, 1) := by rfl
theorem jI_130_103 : jmI (jm 130) 103 = (.ifCond .eq 15, 3) := by rfl
theorem jA_130_513 {xs : List Int} {d : Nat} {x1 x2 x3 : Int} (h_x1 : 0 ≤ x1 ∧ x1 ≤ 3) (h_x2 : 0 ≤ x2 ∧ x2 ≤ 7) (h_x3 : 0 ≤ x3 ∧ x3 ≤ 7) : jT xs (d + 1) 130 19 0 [(0, (4, 0)), (1, (0, x1)), (2, (0, x2)), (3, (0, x3))] [] jpA_1979 1 6 (fun k v hsN => k = 1 ∧ v = (0, 2) ∧ hsN = jpA_1979 ++ []) := by
  refine jT_xaload_n (v := (4, 0)) (pcN := 1) jI_130_0 rfl rfl rfl ?_
  refine jT_xiload_n (v := (0, x1)) (pcN := 2) jI_130_1 rfl rfl rfl ?_
  refine jT_xiconst (k := 4) (pcN := 3) jI_130_2 rfl ?_
  refine jT_fR [0] 19 (y := 115) (pcN := 6) (dC := 0) (bc1 := 0) (bc2 := 0) (c1 := 1) (c2 := 6) (as := [(4, 0), (0, x1), (0, 4)]) (asC := [(4, 0), (0, x1), (0, 4)]) (LN := [(0, (4, 0)), (1, (0, x1)), (2, (0, x2)), (3, (0, x3))]) (stN := []) (hsC := [jgh]) (v := (9, 0)) (st2 := []) (jA_115_315 (d := 0) (by omega)) (by rfl) (by rfl) (by decide +kernel) (by rfl) (by rfl) (by omega) (by omega) (by omega) (by omega) rfl ?_
  refine jT_xaload_n (v := (4, 0)) (pcN := 7) jI_130_6 rfl rfl rfl ?_
  refine jT_xiload_n (v := (0, x2)) (pcN := 8) jI_130_7 rfl rfl rfl ?_
  refine jT_xbipush (k := 8) (pcN := 10) jI_130_8 (by decide) rfl ?_
  refine jT_fR [0] 19 (y := 115) (pcN := 13) (dC := 0) (bc1 := 0) (bc2 := 0) (c1 := 1) (c2 := 6) (as := [(4, 0), (0, x2), (0, 8)]) (asC := [(4, 0), (0, x2), (0, 8)]) (LN := [(0, (4, 0)), (1, (0, x1)), (2, (0, x2)), (3, (0, x3))]) (stN := []) (hsC := [jgh]) (v := (9, 0)) (st2 := []) (jA_115_16 (d := 0) (by omega)) (by rfl) (by rfl) (by decide +kernel) (by rfl) (by rfl) (by omega) (by omega) (by omega) (by omega) rfl ?_
  refine jT_xaload_n (v := (4, 0)) (pcN := 14) jI_130_13 rfl rfl rfl ?_
  refine jT_xiload_n (v := (0, x3)) (pcN := 15) jI_130_14 rfl rfl rfl ?_
  refine jT_xbipush (k := 8) (pcN := 17) jI_130_15 (by decide) rfl ?_
  refine jT_fR [0] 19 (y := 115) (pcN := 20) (dC := 0) (bc1 := 0) (bc2 := 0) (c1 := 1) (c2 := 6) (as := [(4, 0), (0, x3), (0, 8)]) (asC := [(4, 0), (0, x3), (0, 8)]) (LN := [(0, (4, 0)), (1, (0, x1)), (2, (0, x2)), (3, (0, x3))]) (stN := []) (hsC := [jgh]) (v := (9, 0)) (st2 := []) (jA_115_23 (d := 0) (by omega)) (by rfl) (by rfl) (by decide +kernel) (by rfl) (by rfl) (by omega) (by omega) (by omega) (by omega) rfl ?_
  refine jT_xaload_n (v := (4, 0)) (pcN := 21) jI_130_20 rfl rfl rfl ?_
  refine jT_xgetf (a := 0) (t := 1) (ci := 13) (fi := 11) (c := jzA_5) (v := (4, 11)) (pcN := 24) jI_130_21 rfl rfl rfl rfl rfl rfl rfl ?_
  refine jT_xiload_n (v := (0, x2)) (pcN := 25) jI_130_24 rfl rfl rfl ?_
  refine jT_fR [11, 12, 13, 14, 15, 16, 17] 19 (y := 57) (pcN := 28) (dC := 0) (bc1 := 0) (bc2 := 0) (c1 := 1) (c2 := 6) (as := [(4, 11), (0, x2)]) (asC := [(4, 0), (0, x2)]) (LN := [(0, (4, 0)), (1, (0, x1)), (2, (0, x2)), (3, (0, x3))]) (stN := []) (hsC := jpA_47) (v := (4, 6)) (st2 := [(4, 17)]) (jA_57_24 (d := 0) (by omega)) (by rfl) (by rfl) (by decide +kernel) (by rfl) (by rfl) (by omega) (by omega) (by omega) (by omega) rfl ?_
  refine jT_xastore (v := (4, 17)) (LN := [(4, (4, 17)), (0, (4, 0)), (1, (0, x1)), (2, (0, x2)), (3, (0, x3))]) (pcN := 30) jI_130_28 rfl rfl rfl rfl ?_
  refine jT_xaload_n (v := (4, 0)) (pcN := 31) jI_130_30 rfl rfl rfl ?_
  refine jT_xgetf (a := 0) (t := 1) (ci := 13) (fi := 11) (c := jzA_5) (v := (4, 11)) (pcN := 34) jI_130_31 rfl rfl rfl rfl rfl rfl rfl ?_
  refine jT_xiload_n (v := (0, x3)) (pcN := 35) jI_130_34 rfl rfl rfl ?_
  refine jT_fR [11, 12, 13, 14, 15, 16, 17] 19 (y := 57) (pcN := 38) (dC := 0) (bc1 := 0) (bc2 := 0) (c1 := 1) (c2 := 6) (as := [(4, 11), (0, x3)]) (asC := [(4, 0), (0, x3)]) (LN := [(4, (4, 17)), (0, (4, 0)), (1, (0, x1)), (2, (0, x2)), (3, (0, x3))]) (stN := []) (hsC := jpA_47) (v := (4, 6)) (st2 := [(4, 17)]) (jA_57_25 (d := 0) (by omega)) (by rfl) (by rfl) (by decide +kernel) (by rfl) (by rfl) (by omega) (by omega) (by omega) (by omega) rfl ?_
  refine jT_xastore (v := (4, 17)) (LN := [(5, (4, 17)), (4, (4, 17)), (0, (4, 0)), (1, (0, x1)), (2, (0, x2)), (3, (0, x3))]) (pcN := 40) jI_130_38 rfl rfl rfl rfl ?_
  refine jT_xaload (v := (4, 17)) (pcN := 42) jI_130_40 rfl rfl rfl ?_
  refine jT_fR [17, 18] 19 (y := 17) (pcN := 45) (dC := 0) (bc1 := 0) (bc2 := 0) (c1 := 1) (c2 := 6) (as := [(4, 17)]) (asC := [(4, 0)]) (LN := [(5, (4, 17)), (4, (4, 17)), (0, (4, 0)), (1, (0, x1)), (2, (0, x2)), (3, (0, x3))]) (stN := []) (hsC := [(4, [(4, 1), (1, 1)], []), (101, [], [0, 0, 0, 0, 0, 0])]) (v := (0, 1)) (st2 := [(0, 1)]) (jA_17_512 (d := 0)) (by rfl) (by rfl) (by decide +kernel) (by rfl) (by rfl) (by omega) (by omega) (by omega) (by omega) rfl ?_
  refine jT_xifF (t := 56) (pcN := 48) jI_130_45 rfl (by decide +kernel) rfl rfl ?_
  refine jT_xaload (v := (4, 17)) (pcN := 50) jI_130_48 rfl rfl rfl ?_
  refine jT_fR [17, 18] 19 (y := 17) (pcN := 53) (dC := 0) (bc1 := 0) (bc2 := 0) (c1 := 1) (c2 := 6) (as := [(4, 17)]) (asC := [(4, 0)]) (LN := [(5, (4, 17)), (4, (4, 17)), (0, (4, 0)), (1, (0, x1)), (2, (0, x2)), (3, (0, x3))]) (stN := []) (hsC := [(4, [(4, 1), (1, 1)], []), (101, [], [0, 0, 0, 0, 0, 0])]) (v := (0, 1)) (st2 := [(0, 1)]) (jA_17_512 (d := 0)) (by rfl) (by rfl) (by decide +kernel) (by rfl) (by rfl) (by omega) (by omega) (by omega) (by omega) rfl ?_
  refine jT_xifT (pcN := 66) jI_130_53 rfl (by decide +kernel) rfl ?_
  refine jT_xaload (v := (4, 17)) (pcN := 68) jI_130_66 rfl rfl rfl ?_
  refine jT_xgetf (a := 17) (t := 2) (ci := 4) (fi := 0) (c := (4, [(4, 18), (1, 1)], [])) (v := (4, 18)) (pcN := 71) jI_130_68 rfl rfl rfl rfl rfl rfl rfl ?_
  refine jT_xiconst (k := 1) (pcN := 72) jI_130_71 rfl ?_
  refine jT_lald (x := 0) (a := 18) (j := 1) (fs := []) (X := [0, 0, 0, 0, 0, 0]) jI_130_72 rfl rfl rfl rfl ?_
  refine jT_eq (LN := [(5, (4, 17)), (4, (4, 17)), (0, (4, 0)), (1, (0, x1)), (2, (0, x2)), (3, (0, x3))]) (stN := [(1, 0)]) (hsN := jpA_1979) rfl rfl rfl ?_
  refine jT_xaload (v := (4, 17)) (pcN := 75) jI_130_73 rfl rfl rfl ?_
  refine jT_xgetf (a := 17) (t := 2) (ci := 4) (fi := 0) (c := (4, [(4, 18), (1, 1)], [])) (v := (4, 18)) (pcN := 78) jI_130_75 rfl rfl rfl rfl rfl rfl rfl ?_
  refine jT_xiconst (k := 2) (pcN := 79) jI_130_78 rfl ?_
  refine jT_lald (x := 0) (a := 18) (j := 2) (fs := []) (X := [0, 0, 0, 0, 0, 0]) jI_130_79 rfl rfl rfl rfl ?_
  refine jT_eq (LN := [(5, (4, 17)), (4, (4, 17)), (0, (4, 0)), (1, (0, x1)), (2, (0, x2)), (3, (0, x3))]) (stN := [(1, 0), (1, 0)]) (hsN := jpA_1979) rfl rfl rfl ?_
  refine jT_xlmul (x := 0) (y := 0) (z := 0) (pcN := 81) jI_130_80 rfl (by decide) rfl ?_
  refine jT_xaload (v := (4, 17)) (pcN := 83) jI_130_81 rfl rfl rfl ?_
  refine jT_xgetf (a := 17) (t := 2) (ci := 4) (fi := 0) (c := (4, [(4, 18), (1, 1)], [])) (v := (4, 18)) (pcN := 86) jI_130_83 rfl rfl rfl rfl rfl rfl rfl ?_
  refine jT_xiconst (k := 1) (pcN := 87) jI_130_86 rfl ?_
  refine jT_lald (x := 0) (a := 18) (j := 1) (fs := []) (X := [0, 0, 0, 0, 0, 0]) jI_130_87 rfl rfl rfl rfl ?_
  refine jT_eq (LN := [(5, (4, 17)), (4, (4, 17)), (0, (4, 0)), (1, (0, x1)), (2, (0, x2)), (3, (0, x3))]) (stN := [(1, 0), (1, 0)]) (hsN := jpA_1979) rfl rfl rfl ?_
  refine jT_xaload (v := (4, 17)) (pcN := 90) jI_130_88 rfl rfl rfl ?_
  refine jT_xgetf (a := 17) (t := 2) (ci := 4) (fi := 0) (c := (4, [(4, 18), (1, 1)], [])) (v := (4, 18)) (pcN := 93) jI_130_90 rfl rfl rfl rfl rfl rfl rfl ?_
  refine jT_xiconst (k := 2) (pcN := 94) jI_130_93 rfl ?_
  refine jT_lald (x := 0) (a := 18) (j := 2) (fs := []) (X := [0, 0, 0, 0, 0, 0]) jI_130_94 rfl rfl rfl rfl ?_
  refine jT_eq (LN := [(5, (4, 17)), (4, (4, 17)), (0, (4, 0)), (1, (0, x1)), (2, (0, x2)), (3, (0, x3))]) (stN := [(1, 0), (1, 0), (1, 0)]) (hsN := jpA_1979) rfl rfl rfl ?_
  refine jT_xlmul (x := 0) (y := 0) (z := 0) (pcN := 96) jI_130_95 rfl (by decide) rfl ?_
  refine jT_xlsub (x := 0) (y := 0) (z := 0) (pcN := 97) jI_130_96 rfl (by decide) rfl ?_
  refine jT_xlstore (v := (1, 0)) (LN := [(6, (1, 0)), (5, (4, 17)), (4, (4, 17)), (0, (4, 0)), (1, (0, x1)), (2, (0, x2)), (3, (0, x3))]) (pcN := 99) jI_130_97 rfl rfl rfl rfl ?_
  refine jT_xlload (v := (1, 0)) (pcN := 101) jI_130_99 rfl rfl rfl ?_
  refine jT_xlconst (z := 0) (pcN := 102) jI_130_101 rfl rfl ?_
  refine jT_lcmp (a := 0) (b := 0) (z := 0) (by rfl) (by rfl) (by decide +kernel) (by decide +kernel) (by decide) ?_
  refine jT_xifT (pcN := 118) jI_130_103 rfl (by decide +kernel) rfl ?_
  exact jT_ret (c1 := 1) (s1 := 6) rfl (by decide) (by show 19 ≤ 19; decide) (by omega) (by omega) ⟨rfl, rfl, rfl⟩
def jpA_1999 : List JC := [jzA_14, jgh, jgh, jgh, jgh, jgh, jgh, jgh, jgh, jgh, jgh, jgh, jzA_77, jzA_109, jgh, jgh, jgh, jgh, (4, [(4, 19), (1, 1)], []), (101, [], [0, 0, 0, 0, 0, 0])]
theorem jA_338_514 {xs : List Int} {d : Nat} {x1 x2 x3 : Int} (h_x1 : 0 ≤ x1 ∧ x1 ≤ 3) (h_x2 : 0 ≤ x2 ∧ x2 ≤ 7) (h_x3 : 0 ≤ x3 ∧ x3 ≤ 7) : jT xs (d + 2) 338 20 0 [(0, (4, 0)), (1, (0, x1)), (2, (0, x2)), (3, (0, x3)), (4, (4, 1))] [] jpA_1999 1 6 (fun k v hsN => k = 0 ∧ v = (0, 2) ∧ hsN = jpA_1999 ++ []) := by
  refine jT_xaload (v := (4, 1)) (pcN := 2) jI_338_0 rfl rfl rfl ?_
  refine jT_xiconst (k := 0) (pcN := 3) jI_338_2 rfl ?_
  refine jT_xaload_n (v := (4, 0)) (pcN := 4) jI_338_3 rfl rfl rfl ?_
  refine jT_xiload_n (v := (0, x1)) (pcN := 5) jI_338_4 rfl rfl rfl ?_
  refine jT_xiload_n (v := (0, x2)) (pcN := 6) jI_338_5 rfl rfl rfl ?_
  refine jT_xiload_n (v := (0, x3)) (pcN := 7) jI_338_6 rfl rfl rfl ?_
  exact jT_fX [0, 2, 3, 4, 5, 6, 7, 8, 9, 10, 11, 12, 13, 14, 15, 16, 17, 18, 19] 20 (y := 130) (pcN := 10) (dC := 1) (bc1 := 1) (bc2 := 6) (as := [(4, 0), (0, x1), (0, x2), (0, x3)]) (asC := [(4, 0), (0, x1), (0, x2), (0, x3)]) (LN := [(0, (4, 0)), (1, (0, x1)), (2, (0, x2)), (3, (0, x3)), (4, (4, 1))]) (stN := [(0, 0), (4, 1)]) (hsC := jpA_1979) (e := 2) (jA_130_513 (d := 0) (by omega) (by omega) (by omega)) (by rfl) (by rfl) (by decide +kernel) (by rfl) (by rfl) (by omega) (by omega) (by omega) (by omega) (show _ from ⟨rfl, rfl, rfl⟩)
theorem jI_250_0 : jmI (jm 250) 0 = (.bipush 7, 2) := by rfl
theorem jI_250_2 : jmI (jm 250) 2 = (.iload_n 1, 1) := by rfl
theorem jI_250_3 : jmI (jm 250) 3 = (.imul, 1) := by rfl
theorem jI_250_4 : jmI (jm 250) 4 = (.istore_n 2, 1) := by rfl
theorem jI_250_5 : jmI (jm 250) 5 = (.aload_n 0, 1) := by rfl
theorem jI_250_6 : jmI (jm 250) 6 = (.getfield 9, 3) := by rfl
theorem jI_250_9 : jmI (jm 250) 9 = (.iload_n 2, 1) := by rfl
theorem jI_250_10 : jmI (jm 250) 10 = (.bipush 6, 2) := by rfl
theorem jI_250_12 : jmI (jm 250) 12 = (.iadd, 1) := by rfl
theorem jI_250_13 : jmI (jm 250) 13 = (.iaload, 1) := by rfl
theorem jI_250_14 : jmI (jm 250) 14 = (.iconst 1, 1) := by rfl
theorem jI_250_15 : jmI (jm 250) 15 = (.if_icmp .ne 40, 3) := by rfl
theorem jI_250_18 : jmI (jm 250) 18 = (.aload_n 0, 1) := by rfl
theorem jI_250_19 : jmI (jm 250) 19 = (.getfield 9, 3) := by rfl
theorem jI_250_22 : jmI (jm 250) 22 = (.iload_n 2, 1) := by rfl
theorem jI_250_23 : jmI (jm 250) 23 = (.iconst 3, 1) := by rfl
theorem jI_250_24 : jmI (jm 250) 24 = (.iadd, 1) := by rfl
theorem jI_250_25 : jmI (jm 250) 25 = (.iaload, 1) := by rfl
theorem jI_250_26 : jmI (jm 250) 26 = (.ifCond .ne 29, 3) := by rfl
theorem jI_250_29 : jmI (jm 250) 29 = (.aload_n 0, 1) := by rfl
theorem jI_250_30 : jmI (jm 250) 30 = (.getfield 9, 3) := by rfl
theorem jI_250_33 : jmI (jm 250) 33 = (.iload_n 2, 1) := by rfl
theorem jI_250_34 : jmI (jm 250) 34 = (.iconst 4, 1) := by rfl
theorem jI_250_35 : jmI (jm 250) 35 = (.iadd, 1) := by rfl
theorem jI_250_36 : jmI (jm 250) 36 = (.iaload, 1) := by rfl
theorem jI_250_37 : jmI (jm 250) 37 = (.ifCond .ne 18, 3) := by rfl
theorem jI_250_40 : jmI (jm 250) 40 = (.aload_n 0, 1) := by rfl
theorem jI_250_41 : jmI (jm 250) 41 = (.getfield 9, 3) := by rfl
theorem jI_250_44 : jmI (jm 250) 44 = (.iload_n 2, 1) := by rfl
theorem jI_250_45 : jmI (jm 250) 45 = (.iconst 5, 1) := by rfl
theorem jI_250_46 : jmI (jm 250) 46 = (.iadd, 1) := by rfl
theorem jI_250_47 : jmI (jm 250) 47 = (.iaload, 1) := by rfl
theorem jI_250_48 : jmI (jm 250) 48 = (.ifCond .ne 7, 3) := by rfl
theorem jI_250_51 : jmI (jm 250) 51 = (.iconst 1, 1) := by rfl
theorem jI_250_52 : jmI (jm 250) 52 = (.goto 4, 3) := by rfl
theorem jA_250_515 {xs : List Int} {d : Nat} {x2 : Int} (h_x2 : 0 ≤ x2 ∧ x2 ≤ 7) : jT xs d 250 16 0 [(0, (4, 0)), (1, (0, x2))] [] jpA_1519 0 0 (fun k v hsN => k = 0 ∧ v = (0, 1) ∧ hsN = jpA_1519 ++ []) := by
  refine jT_xbipush (k := 7) (pcN := 2) jI_250_0 (by decide) rfl ?_
  refine jT_xiload_n (v := (0, x2)) (pcN := 3) jI_250_2 rfl rfl rfl ?_
  refine jT_ximul (x := 7) (y := x2) (z := 7 * x2) (pcN := 4) jI_250_3 rfl (rfl) rfl ?_
  refine jT_xistore_n (v := (0, 7 * x2)) (LN := [(2, (0, 7 * x2)), (0, (4, 0)), (1, (0, x2))]) (pcN := 5) jI_250_4 rfl rfl rfl rfl ?_
  refine jT_xaload_n (v := (4, 0)) (pcN := 6) jI_250_5 rfl rfl rfl ?_
  refine jT_xgetf (a := 0) (t := 1) (ci := 14) (fi := 1) (c := jzA_21) (v := (4, 1)) (pcN := 9) jI_250_6 rfl rfl rfl rfl rfl rfl rfl ?_
  refine jT_xiload_n (v := (0, 7 * x2)) (pcN := 10) jI_250_9 rfl rfl rfl ?_
  refine jT_xbipush (k := 6) (pcN := 12) jI_250_10 (by decide) rfl ?_
  refine jT_xiadd (x := 7 * x2) (y := 6) (z := 7 * x2 + 6) (pcN := 13) jI_250_12 rfl (by omega) rfl ?_
  refine jT_iald (x := 1) (a := 1) (j := (7 * x2 + 6).toNat) (fs := []) (X := jS0) (by rfl) (by rfl) (by rfl) (jw_nn (by omega) (by omega)) (jS0_r6 (by omega) (by omega)) ?_
  refine jT_eq (LN := [(2, (0, 7 * x2)), (0, (4, 0)), (1, (0, x2))]) (stN := [(0, 1)]) (hsN := jpA_1519) rfl rfl rfl ?_
  refine jT_xiconst (k := 1) (pcN := 15) jI_250_14 rfl ?_
  refine jT_xicF (t := 55) (pcN := 18) jI_250_15 rfl (by decide +kernel) rfl rfl ?_
  refine jT_xaload_n (v := (4, 0)) (pcN := 19) jI_250_18 rfl rfl rfl ?_
  refine jT_xgetf (a := 0) (t := 1) (ci := 14) (fi := 1) (c := jzA_21) (v := (4, 1)) (pcN := 22) jI_250_19 rfl rfl rfl rfl rfl rfl rfl ?_
  refine jT_xiload_n (v := (0, 7 * x2)) (pcN := 23) jI_250_22 rfl rfl rfl ?_
  refine jT_xiconst (k := 3) (pcN := 24) jI_250_23 rfl ?_
  refine jT_xiadd (x := 7 * x2) (y := 3) (z := 7 * x2 + 3) (pcN := 25) jI_250_24 rfl (by omega) rfl ?_
  refine jT_iald (x := 0) (a := 1) (j := (7 * x2 + 3).toNat) (fs := []) (X := jS0) (by rfl) (by rfl) (by rfl) (jw_nn (by omega) (by omega)) (jS0_r3 (by omega) (by omega)) ?_
  refine jT_eq (LN := [(2, (0, 7 * x2)), (0, (4, 0)), (1, (0, x2))]) (stN := [(0, 0)]) (hsN := jpA_1519) rfl rfl rfl ?_
  refine jT_xifF (t := 55) (pcN := 29) jI_250_26 rfl (by decide +kernel) rfl rfl ?_
  refine jT_xaload_n (v := (4, 0)) (pcN := 30) jI_250_29 rfl rfl rfl ?_
  refine jT_xgetf (a := 0) (t := 1) (ci := 14) (fi := 1) (c := jzA_21) (v := (4, 1)) (pcN := 33) jI_250_30 rfl rfl rfl rfl rfl rfl rfl ?_
  refine jT_xiload_n (v := (0, 7 * x2)) (pcN := 34) jI_250_33 rfl rfl rfl ?_
  refine jT_xiconst (k := 4) (pcN := 35) jI_250_34 rfl ?_
  refine jT_xiadd (x := 7 * x2) (y := 4) (z := 7 * x2 + 4) (pcN := 36) jI_250_35 rfl (by omega) rfl ?_
  refine jT_iald (x := 0) (a := 1) (j := (7 * x2 + 4).toNat) (fs := []) (X := jS0) (by rfl) (by rfl) (by rfl) (jw_nn (by omega) (by omega)) (jS0_r4 (by omega) (by omega)) ?_
  refine jT_eq (LN := [(2, (0, 7 * x2)), (0, (4, 0)), (1, (0, x2))]) (stN := [(0, 0)]) (hsN := jpA_1519) rfl rfl rfl ?_
  refine jT_xifF (t := 55) (pcN := 40) jI_250_37 rfl (by decide +kernel) rfl rfl ?_
  refine jT_xaload_n (v := (4, 0)) (pcN := 41) jI_250_40 rfl rfl rfl ?_
  refine jT_xgetf (a := 0) (t := 1) (ci := 14) (fi := 1) (c := jzA_21) (v := (4, 1)) (pcN := 44) jI_250_41 rfl rfl rfl rfl rfl rfl rfl ?_
  refine jT_xiload_n (v := (0, 7 * x2)) (pcN := 45) jI_250_44 rfl rfl rfl ?_
  refine jT_xiconst (k := 5) (pcN := 46) jI_250_45 rfl ?_
  refine jT_xiadd (x := 7 * x2) (y := 5) (z := 7 * x2 + 5) (pcN := 47) jI_250_46 rfl (by omega) rfl ?_
  refine jT_iald (x := 0) (a := 1) (j := (7 * x2 + 5).toNat) (fs := []) (X := jS0) (by rfl) (by rfl) (by rfl) (jw_nn (by omega) (by omega)) (jS0_r5 (by omega) (by omega)) ?_
  refine jT_eq (LN := [(2, (0, 7 * x2)), (0, (4, 0)), (1, (0, x2))]) (stN := [(0, 0)]) (hsN := jpA_1519) rfl rfl rfl ?_
  refine jT_xifF (t := 55) (pcN := 51) jI_250_48 rfl (by decide +kernel) rfl rfl ?_
  refine jT_xiconst (k := 1) (pcN := 52) jI_250_51 rfl ?_
  refine jT_xgoto (pcN := 56) jI_250_52 rfl ?_
  exact jT_ret rfl (by decide) (by show 16 ≤ 16; decide) (by omega) (by omega) ⟨rfl, rfl, rfl⟩
theorem jA_250_516 {xs : List Int} {d : Nat} {x3 : Int} (h_x3 : 0 ≤ x3 ∧ x3 ≤ 7) : jT xs d 250 16 0 [(0, (4, 0)), (1, (0, x3))] [] jpA_1519 0 0 (fun k v hsN => k = 0 ∧ v = (0, 1) ∧ hsN = jpA_1519 ++ []) := by
  refine jT_xbipush (k := 7) (pcN := 2) jI_250_0 (by decide) rfl ?_
  refine jT_xiload_n (v := (0, x3)) (pcN := 3) jI_250_2 rfl rfl rfl ?_
  refine jT_ximul (x := 7) (y := x3) (z := 7 * x3) (pcN := 4) jI_250_3 rfl (rfl) rfl ?_
  refine jT_xistore_n (v := (0, 7 * x3)) (LN := [(2, (0, 7 * x3)), (0, (4, 0)), (1, (0, x3))]) (pcN := 5) jI_250_4 rfl rfl rfl rfl ?_
  refine jT_xaload_n (v := (4, 0)) (pcN := 6) jI_250_5 rfl rfl rfl ?_
  refine jT_xgetf (a := 0) (t := 1) (ci := 14) (fi := 1) (c := jzA_21) (v := (4, 1)) (pcN := 9) jI_250_6 rfl rfl rfl rfl rfl rfl rfl ?_
  refine jT_xiload_n (v := (0, 7 * x3)) (pcN := 10) jI_250_9 rfl rfl rfl ?_
  refine jT_xbipush (k := 6) (pcN := 12) jI_250_10 (by decide) rfl ?_
  refine jT_xiadd (x := 7 * x3) (y := 6) (z := 7 * x3 + 6) (pcN := 13) jI_250_12 rfl (by omega) rfl ?_
  refine jT_iald (x := 1) (a := 1) (j := (7 * x3 + 6).toNat) (fs := []) (X := jS0) (by rfl) (by rfl) (by rfl) (jw_nn (by omega) (by omega)) (jS0_r6 (by omega) (by omega)) ?_
  refine jT_eq (LN := [(2, (0, 7 * x3)), (0, (4, 0)), (1, (0, x3))]) (stN := [(0, 1)]) (hsN := jpA_1519) rfl rfl rfl ?_
  refine jT_xiconst (k := 1) (pcN := 15) jI_250_14 rfl ?_
  refine jT_xicF (t := 55) (pcN := 18) jI_250_15 rfl (by decide +kernel) rfl rfl ?_
  refine jT_xaload_n (v := (4, 0)) (pcN := 19) jI_250_18 rfl rfl rfl ?_
  refine jT_xgetf (a := 0) (t := 1) (ci := 14) (fi := 1) (c := jzA_21) (v := (4, 1)) (pcN := 22) jI_250_19 rfl rfl rfl rfl rfl rfl rfl ?_
  refine jT_xiload_n (v := (0, 7 * x3)) (pcN := 23) jI_250_22 rfl rfl rfl ?_
  refine jT_xiconst (k := 3) (pcN := 24) jI_250_23 rfl ?_
  refine jT_xiadd (x := 7 * x3) (y := 3) (z := 7 * x3 + 3) (pcN := 25) jI_250_24 rfl (by omega) rfl ?_
  refine jT_iald (x := 0) (a := 1) (j := (7 * x3 + 3).toNat) (fs := []) (X := jS0) (by rfl) (by rfl) (by rfl) (jw_nn (by omega) (by omega)) (jS0_r3 (by omega) (by omega)) ?_
  refine jT_eq (LN := [(2, (0, 7 * x3)), (0, (4, 0)), (1, (0, x3))]) (stN := [(0, 0)]) (hsN := jpA_1519) rfl rfl rfl ?_
  refine jT_xifF (t := 55) (pcN := 29) jI_250_26 rfl (by decide +kernel) rfl rfl ?_
  refine jT_xaload_n (v := (4, 0)) (pcN := 30) jI_250_29 rfl rfl rfl ?_
  refine jT_xgetf (a := 0) (t := 1) (ci := 14) (fi := 1) (c := jzA_21) (v := (4, 1)) (pcN := 33) jI_250_30 rfl rfl rfl rfl rfl rfl rfl ?_
  refine jT_xiload_n (v := (0, 7 * x3)) (pcN := 34) jI_250_33 rfl rfl rfl ?_
  refine jT_xiconst (k := 4) (pcN := 35) jI_250_34 rfl ?_
  refine jT_xiadd (x := 7 * x3) (y := 4) (z := 7 * x3 + 4) (pcN := 36) jI_250_35 rfl (by omega) rfl ?_
  refine jT_iald (x := 0) (a := 1) (j := (7 * x3 + 4).toNat) (fs := []) (X := jS0) (by rfl) (by rfl) (by rfl) (jw_nn (by omega) (by omega)) (jS0_r4 (by omega) (by omega)) ?_
  refine jT_eq (LN := [(2, (0, 7 * x3)), (0, (4, 0)), (1, (0, x3))]) (stN := [(0, 0)]) (hsN := jpA_1519) rfl rfl rfl ?_
  refine jT_xifF (t := 55) (pcN := 40) jI_250_37 rfl (by decide +kernel) rfl rfl ?_
  refine jT_xaload_n (v := (4, 0)) (pcN := 41) jI_250_40 rfl rfl rfl ?_
  refine jT_xgetf (a := 0) (t := 1) (ci := 14) (fi := 1) (c := jzA_21) (v := (4, 1)) (pcN := 44) jI_250_41 rfl rfl rfl rfl rfl rfl rfl ?_
  refine jT_xiload_n (v := (0, 7 * x3)) (pcN := 45) jI_250_44 rfl rfl rfl ?_
  refine jT_xiconst (k := 5) (pcN := 46) jI_250_45 rfl ?_
  refine jT_xiadd (x := 7 * x3) (y := 5) (z := 7 * x3 + 5) (pcN := 47) jI_250_46 rfl (by omega) rfl ?_
  refine jT_iald (x := 0) (a := 1) (j := (7 * x3 + 5).toNat) (fs := []) (X := jS0) (by rfl) (by rfl) (by rfl) (jw_nn (by omega) (by omega)) (jS0_r5 (by omega) (by omega)) ?_
  refine jT_eq (LN := [(2, (0, 7 * x3)), (0, (4, 0)), (1, (0, x3))]) (stN := [(0, 0)]) (hsN := jpA_1519) rfl rfl rfl ?_
  refine jT_xifF (t := 55) (pcN := 51) jI_250_48 rfl (by decide +kernel) rfl rfl ?_
  refine jT_xiconst (k := 1) (pcN := 52) jI_250_51 rfl ?_
  refine jT_xgoto (pcN := 56) jI_250_52 rfl ?_
  exact jT_ret rfl (by decide) (by show 16 ≤ 16; decide) (by omega) (by omega) ⟨rfl, rfl, rfl⟩
theorem jI_249_22 : jmI (jm 249) 22 = (.iconst 1, 1) := by rfl
theorem jI_249_23 : jmI (jm 249) 23 = (.goto 4, 3) := by rfl
theorem jI_249_35 : jmI (jm 249) 35 = (.aload_n 0, 1) := by rfl
theorem jI_249_36 : jmI (jm 249) 36 = (.getfield 9, 3) := by rfl
theorem jI_249_39 : jmI (jm 249) 39 = (.bipush 7, 2) := by rfl
theorem jI_249_41 : jmI (jm 249) 41 = (.iload_n 2, 1) := by rfl
theorem jI_249_42 : jmI (jm 249) 42 = (.imul, 1) := by rfl
theorem jI_249_43 : jmI (jm 249) 43 = (.iconst 1, 1) := by rfl
theorem jI_249_44 : jmI (jm 249) 44 = (.iadd, 1) := by rfl
theorem jI_249_45 : jmI (jm 249) 45 = (.iaload, 1) := by rfl
theorem jI_249_46 : jmI (jm 249) 46 = (.i2l, 1) := by rfl
theorem jI_249_47 : jmI (jm 249) 47 = (.aload_n 0, 1) := by rfl
theorem jI_249_48 : jmI (jm 249) 48 = (.getfield 9, 3) := by rfl
theorem jI_249_51 : jmI (jm 249) 51 = (.bipush 7, 2) := by rfl
theorem jI_249_53 : jmI (jm 249) 53 = (.iload_n 3, 1) := by rfl
theorem jI_249_54 : jmI (jm 249) 54 = (.imul, 1) := by rfl
theorem jI_249_55 : jmI (jm 249) 55 = (.iconst 2, 1) := by rfl
theorem jI_249_56 : jmI (jm 249) 56 = (.iadd, 1) := by rfl
theorem jI_249_57 : jmI (jm 249) 57 = (.iaload, 1) := by rfl
theorem jI_249_58 : jmI (jm 249) 58 = (.i2l, 1) := by rfl
theorem jI_249_59 : jmI (jm 249) 59 = (.lmul, 1) := by rfl
theorem jI_249_60 : jmI (jm 249) 60 = (.aload_n 0, 1) := by rfl
theorem jI_249_61 : jmI (jm 249) 61 = (.getfield 9, 3) := by rfl
theorem jI_249_64 : jmI (jm 249) 64 = (.bipush 7, 2) := by rfl
theorem jI_249_66 : jmI (jm 249) 66 = (.iload_n 3, 1) := by rfl
theorem jI_249_67 : jmI (jm 249) 67 = (.imul, 1) := by rfl
theorem jI_249_68 : jmI (jm 249) 68 = (.iconst 1, 1) := by rfl
theorem jI_249_69 : jmI (jm 249) 69 = (.iadd, 1) := by rfl
theorem jI_249_70 : jmI (jm 249) 70 = (.iaload, 1) := by rfl
theorem jI_249_71 : jmI (jm 249) 71 = (.i2l, 1) := by rfl
theorem jI_249_72 : jmI (jm 249) 72 = (.aload_n 0, 1) := by rfl
theorem jI_249_73 : jmI (jm 249) 73 = (.getfield 9, 3) := by rfl
theorem jI_249_76 : jmI (jm 249) 76 = (.bipush 7, 2) := by rfl
theorem jI_249_78 : jmI (jm 249) 78 = (.iload_n 2, 1) := by rfl
theorem jI_249_79 : jmI (jm 249) 79 = (.imul, 1) := by rfl
theorem jI_249_80 : jmI (jm 249) 80 = (.iconst 2, 1) := by rfl
theorem jI_249_81 : jmI (jm 249) 81 = (.iadd, 1) := by rfl
theorem jI_249_82 : jmI (jm 249) 82 = (.iaload, 1) := by rfl
theorem jI_249_83 : jmI (jm 249) 83 = (.i2l, 1) := by rfl
theorem jI_249_84 : jmI (jm 249) 84 = (.lmul, 1) := by rfl
theorem jI_249_85 : jmI (jm 249) 85 = (.lsub, 1) := by rfl
theorem jI_249_86 : jmI (jm 249) 86 = (.lstore 4, 2) := by rfl
theorem jI_249_88 : jmI (jm 249) 88 = (.aload_n 0, 1) := by rfl
theorem jI_249_89 : jmI (jm 249) 89 = (.aload_n 0, 1) := by rfl
theorem jI_249_90 : jmI (jm 249) 90 = (.iload_n 2, 1) := by rfl
theorem jI_249_94 : jmI (jm 249) 94 = (.ifCond .eq 36, 3) := by rfl
theorem jI_249_97 : jmI (jm 249) 97 = (.aload_n 0, 1) := by rfl
theorem jI_249_98 : jmI (jm 249) 98 = (.iload_n 3, 1) := by rfl
theorem jI_249_102 : jmI (jm 249) 102 = (.ifCond .eq 28, 3) := by rfl
theorem jI_249_105 : jmI (jm 249) 105 = (.lload 4, 2) := by rfl
theorem jI_249_107 : jmI (jm 249) 107 = (.lconst 0, 1) := by rfl
theorem jI_249_109 : jmI (jm 249) 109 = (.ifCond .eq 21, 3) := by rfl
theorem jI_249_130 : jmI (jm 249) 130 = (.iconst 0, 1) := by rfl
theorem jI_249_131 : jmI (jm 249) 131 = (.iconst 2, 1) := by rfl
def jpA_2089 : List JC := [jzA_360, (100, [], jS0), jgh, jgh, jgh, jgh, jgh, jgh, jgh, jgh, jgh, jgh, jgh, jgh, jgh, jgh]
theorem jI_249_135 : jmI (jm 249) 135 = (.ifCond .ne 20, 3) := by rfl
theorem jI_249_155 : jmI (jm 249) 155 = (.iconst 0, 1) := by rfl
theorem jA_249_517 {xs : List Int} {d : Nat} {x1 x2 x3 : Int} (h_x1 : 0 ≤ x1 ∧ x1 ≤ 3) (h_x2 : 0 ≤ x2 ∧ x2 ≤ 7) (h_x3 : 0 ≤ x3 ∧ x3 ≤ 7) : jT xs (d + 2) 249 16 0 [(0, (4, 0)), (1, (0, x1)), (2, (0, x2)), (3, (0, x3))] [] jpA_1519 0 0 (fun k v hsN => k = 0 ∧ v = (0, 0) ∧ hsN = jpA_2089) := by
  refine jT_xaload_n (v := (4, 0)) (pcN := 1) jI_249_0 rfl rfl rfl ?_
  refine jT_xiload_n (v := (0, x1)) (pcN := 2) jI_249_1 rfl rfl rfl ?_
  refine jT_fR [] 16 (y := 238) (pcN := 5) (dC := 1) (bc1 := 0) (bc2 := 0) (c1 := 0) (c2 := 0) (as := [(0, x1)]) (asC := [(0, x1)]) (LN := [(0, (4, 0)), (1, (0, x1)), (2, (0, x2)), (3, (0, x3))]) (stN := [(4, 0)]) (hsC := []) (v := (0, 1)) (st2 := [(0, 1), (4, 0)]) (jA_238_318 (d := 0) (by omega)) (by rfl) (by rfl) (by decide +kernel) (by rfl) (by rfl) (by omega) (by omega) (by omega) (by omega) rfl ?_
  refine jT_xifF (t := 26) (pcN := 8) jI_249_5 rfl (by decide +kernel) rfl rfl ?_
  refine jT_xiload_n (v := (0, x2)) (pcN := 9) jI_249_8 rfl rfl rfl ?_
  refine jT_fR [] 16 (y := 188) (pcN := 12) (dC := 1) (bc1 := 0) (bc2 := 0) (c1 := 0) (c2 := 0) (as := [(0, x2)]) (asC := [(0, x2)]) (LN := [(0, (4, 0)), (1, (0, x1)), (2, (0, x2)), (3, (0, x3))]) (stN := [(4, 0)]) (hsC := []) (v := (0, 1)) (st2 := [(0, 1), (4, 0)]) (jA_188_20 (d := 0) (by omega)) (by rfl) (by rfl) (by decide +kernel) (by rfl) (by rfl) (by omega) (by omega) (by omega) (by omega) rfl ?_
  refine jT_xifF (t := 26) (pcN := 15) jI_249_12 rfl (by decide +kernel) rfl rfl ?_
  refine jT_xiload_n (v := (0, x3)) (pcN := 16) jI_249_15 rfl rfl rfl ?_
  refine jT_fR [] 16 (y := 188) (pcN := 19) (dC := 1) (bc1 := 0) (bc2 := 0) (c1 := 0) (c2 := 0) (as := [(0, x3)]) (asC := [(0, x3)]) (LN := [(0, (4, 0)), (1, (0, x1)), (2, (0, x2)), (3, (0, x3))]) (stN := [(4, 0)]) (hsC := []) (v := (0, 1)) (st2 := [(0, 1), (4, 0)]) (jA_188_37 (d := 0) (by omega)) (by rfl) (by rfl) (by decide +kernel) (by rfl) (by rfl) (by omega) (by omega) (by omega) (by omega) rfl ?_
  refine jT_xifF (t := 26) (pcN := 22) jI_249_19 rfl (by decide +kernel) rfl rfl ?_
  refine jT_xiconst (k := 1) (pcN := 23) jI_249_22 rfl ?_
  refine jT_xgoto (pcN := 27) jI_249_23 rfl ?_
  refine jT_fR [0, 1, 2, 3, 4, 5, 6, 7, 8, 9, 10, 11, 12, 13, 14, 15] 16 (y := 190) (pcN := 30) (dC := 1) (bc1 := 0) (bc2 := 0) (c1 := 0) (c2 := 0) (as := [(4, 0), (0, 1)]) (asC := [(4, 0), (0, 1)]) (LN := [(0, (4, 0)), (1, (0, x1)), (2, (0, x2)), (3, (0, x3))]) (stN := []) (hsC := jpA_22) (v := (0, 0)) (st2 := [(0, 0)]) (jA_190_39 (d := 0)) (by rfl) (by rfl) (by decide +kernel) (by rfl) (by rfl) (by omega) (by omega) (by omega) (by omega) rfl ?_
  refine jT_xifT (pcN := 35) jI_249_30 rfl (by decide +kernel) rfl ?_
  refine jT_xaload_n (v := (4, 0)) (pcN := 36) jI_249_35 rfl rfl rfl ?_
  refine jT_xgetf (a := 0) (t := 1) (ci := 14) (fi := 1) (c := jzA_21) (v := (4, 1)) (pcN := 39) jI_249_36 rfl rfl rfl rfl rfl rfl rfl ?_
  refine jT_xbipush (k := 7) (pcN := 41) jI_249_39 (by decide) rfl ?_
  refine jT_xiload_n (v := (0, x2)) (pcN := 42) jI_249_41 rfl rfl rfl ?_
  refine jT_ximul (x := 7) (y := x2) (z := 7 * x2) (pcN := 43) jI_249_42 rfl (rfl) rfl ?_
  refine jT_xiconst (k := 1) (pcN := 44) jI_249_43 rfl ?_
  refine jT_xiadd (x := 7 * x2) (y := 1) (z := 7 * x2 + 1) (pcN := 45) jI_249_44 rfl (by omega) rfl ?_
  refine jT_iald (x := 0) (a := 1) (j := (7 * x2 + 1).toNat) (fs := []) (X := jS0) (by rfl) (by rfl) (by rfl) (jw_nn (by omega) (by omega)) (jS0_r1 (by omega) (by omega)) ?_
  refine jT_eq (LN := [(0, (4, 0)), (1, (0, x1)), (2, (0, x2)), (3, (0, x3))]) (stN := [(0, 0)]) (hsN := jpA_1519) rfl rfl rfl ?_
  refine jT_xi2l (x := 0) (z := 0) (pcN := 47) jI_249_46 rfl (by decide +kernel) rfl ?_
  refine jT_xaload_n (v := (4, 0)) (pcN := 48) jI_249_47 rfl rfl rfl ?_
  refine jT_xgetf (a := 0) (t := 1) (ci := 14) (fi := 1) (c := jzA_21) (v := (4, 1)) (pcN := 51) jI_249_48 rfl rfl rfl rfl rfl rfl rfl ?_
  refine jT_xbipush (k := 7) (pcN := 53) jI_249_51 (by decide) rfl ?_
  refine jT_xiload_n (v := (0, x3)) (pcN := 54) jI_249_53 rfl rfl rfl ?_
  refine jT_ximul (x := 7) (y := x3) (z := 7 * x3) (pcN := 55) jI_249_54 rfl (rfl) rfl ?_
  refine jT_xiconst (k := 2) (pcN := 56) jI_249_55 rfl ?_
  refine jT_xiadd (x := 7 * x3) (y := 2) (z := 7 * x3 + 2) (pcN := 57) jI_249_56 rfl (by omega) rfl ?_
  refine jT_iald (x := 0) (a := 1) (j := (7 * x3 + 2).toNat) (fs := []) (X := jS0) (by rfl) (by rfl) (by rfl) (jw_nn (by omega) (by omega)) (jS0_r2 (by omega) (by omega)) ?_
  refine jT_eq (LN := [(0, (4, 0)), (1, (0, x1)), (2, (0, x2)), (3, (0, x3))]) (stN := [(0, 0), (1, 0)]) (hsN := jpA_1519) rfl rfl rfl ?_
  refine jT_xi2l (x := 0) (z := 0) (pcN := 59) jI_249_58 rfl (by decide +kernel) rfl ?_
  refine jT_xlmul (x := 0) (y := 0) (z := 0) (pcN := 60) jI_249_59 rfl (by decide) rfl ?_
  refine jT_xaload_n (v := (4, 0)) (pcN := 61) jI_249_60 rfl rfl rfl ?_
  refine jT_xgetf (a := 0) (t := 1) (ci := 14) (fi := 1) (c := jzA_21) (v := (4, 1)) (pcN := 64) jI_249_61 rfl rfl rfl rfl rfl rfl rfl ?_
  refine jT_xbipush (k := 7) (pcN := 66) jI_249_64 (by decide) rfl ?_
  refine jT_xiload_n (v := (0, x3)) (pcN := 67) jI_249_66 rfl rfl rfl ?_
  refine jT_ximul (x := 7) (y := x3) (z := 7 * x3) (pcN := 68) jI_249_67 rfl (rfl) rfl ?_
  refine jT_xiconst (k := 1) (pcN := 69) jI_249_68 rfl ?_
  refine jT_xiadd (x := 7 * x3) (y := 1) (z := 7 * x3 + 1) (pcN := 70) jI_249_69 rfl (by omega) rfl ?_
  refine jT_iald (x := 0) (a := 1) (j := (7 * x3 + 1).toNat) (fs := []) (X := jS0) (by rfl) (by rfl) (by rfl) (jw_nn (by omega) (by omega)) (jS0_r1 (by omega) (by omega)) ?_
  refine jT_eq (LN := [(0, (4, 0)), (1, (0, x1)), (2, (0, x2)), (3, (0, x3))]) (stN := [(0, 0), (1, 0)]) (hsN := jpA_1519) rfl rfl rfl ?_
  refine jT_xi2l (x := 0) (z := 0) (pcN := 72) jI_249_71 rfl (by decide +kernel) rfl ?_
  refine jT_xaload_n (v := (4, 0)) (pcN := 73) jI_249_72 rfl rfl rfl ?_
  refine jT_xgetf (a := 0) (t := 1) (ci := 14) (fi := 1) (c := jzA_21) (v := (4, 1)) (pcN := 76) jI_249_73 rfl rfl rfl rfl rfl rfl rfl ?_
  refine jT_xbipush (k := 7) (pcN := 78) jI_249_76 (by decide) rfl ?_
  refine jT_xiload_n (v := (0, x2)) (pcN := 79) jI_249_78 rfl rfl rfl ?_
  refine jT_ximul (x := 7) (y := x2) (z := 7 * x2) (pcN := 80) jI_249_79 rfl (rfl) rfl ?_
  refine jT_xiconst (k := 2) (pcN := 81) jI_249_80 rfl ?_
  refine jT_xiadd (x := 7 * x2) (y := 2) (z := 7 * x2 + 2) (pcN := 82) jI_249_81 rfl (by omega) rfl ?_
  refine jT_iald (x := 0) (a := 1) (j := (7 * x2 + 2).toNat) (fs := []) (X := jS0) (by rfl) (by rfl) (by rfl) (jw_nn (by omega) (by omega)) (jS0_r2 (by omega) (by omega)) ?_
  refine jT_eq (LN := [(0, (4, 0)), (1, (0, x1)), (2, (0, x2)), (3, (0, x3))]) (stN := [(0, 0), (1, 0), (1, 0)]) (hsN := jpA_1519) rfl rfl rfl ?_
  refine jT_xi2l (x := 0) (z := 0) (pcN := 84) jI_249_83 rfl (by decide +kernel) rfl ?_
  refine jT_xlmul (x := 0) (y := 0) (z := 0) (pcN := 85) jI_249_84 rfl (by decide) rfl ?_
  refine jT_xlsub (x := 0) (y := 0) (z := 0) (pcN := 86) jI_249_85 rfl (by decide) rfl ?_
  refine jT_xlstore (v := (1, 0)) (LN := [(4, (1, 0)), (0, (4, 0)), (1, (0, x1)), (2, (0, x2)), (3, (0, x3))]) (pcN := 88) jI_249_86 rfl rfl rfl rfl ?_
  refine jT_xaload_n (v := (4, 0)) (pcN := 89) jI_249_88 rfl rfl rfl ?_
  refine jT_xaload_n (v := (4, 0)) (pcN := 90) jI_249_89 rfl rfl rfl ?_
  refine jT_xiload_n (v := (0, x2)) (pcN := 91) jI_249_90 rfl rfl rfl ?_
  refine jT_fR [0, 1, 2, 3, 4, 5, 6, 7, 8, 9, 10, 11, 12, 13, 14, 15] 16 (y := 250) (pcN := 94) (dC := 0) (bc1 := 0) (bc2 := 0) (c1 := 0) (c2 := 0) (as := [(4, 0), (0, x2)]) (asC := [(4, 0), (0, x2)]) (LN := [(4, (1, 0)), (0, (4, 0)), (1, (0, x1)), (2, (0, x2)), (3, (0, x3))]) (stN := [(4, 0)]) (hsC := jpA_1519) (v := (0, 1)) (st2 := [(0, 1), (4, 0)]) (jA_250_515 (d := 0) (by omega)) (by rfl) (by rfl) (by decide +kernel) (by rfl) (by rfl) (by omega) (by omega) (by omega) (by omega) rfl ?_
  refine jT_xifF (t := 130) (pcN := 97) jI_249_94 rfl (by decide +kernel) rfl rfl ?_
  refine jT_xaload_n (v := (4, 0)) (pcN := 98) jI_249_97 rfl rfl rfl ?_
  refine jT_xiload_n (v := (0, x3)) (pcN := 99) jI_249_98 rfl rfl rfl ?_
  refine jT_fR [0, 1, 2, 3, 4, 5, 6, 7, 8, 9, 10, 11, 12, 13, 14, 15] 16 (y := 250) (pcN := 102) (dC := 0) (bc1 := 0) (bc2 := 0) (c1 := 0) (c2 := 0) (as := [(4, 0), (0, x3)]) (asC := [(4, 0), (0, x3)]) (LN := [(4, (1, 0)), (0, (4, 0)), (1, (0, x1)), (2, (0, x2)), (3, (0, x3))]) (stN := [(4, 0)]) (hsC := jpA_1519) (v := (0, 1)) (st2 := [(0, 1), (4, 0)]) (jA_250_516 (d := 0) (by omega)) (by rfl) (by rfl) (by decide +kernel) (by rfl) (by rfl) (by omega) (by omega) (by omega) (by omega) rfl ?_
  refine jT_xifF (t := 130) (pcN := 105) jI_249_102 rfl (by decide +kernel) rfl rfl ?_
  refine jT_xlload (v := (1, 0)) (pcN := 107) jI_249_105 rfl rfl rfl ?_
  refine jT_xlconst (z := 0) (pcN := 108) jI_249_107 rfl rfl ?_
  refine jT_lcmp (a := 0) (b := 0) (z := 0) (by rfl) (by rfl) (by decide +kernel) (by decide +kernel) (by decide) ?_
  refine jT_xifT (pcN := 130) jI_249_109 rfl (by decide +kernel) rfl ?_
  refine jT_xiconst (k := 0) (pcN := 131) jI_249_130 rfl ?_
  refine jT_xiconst (k := 2) (pcN := 132) jI_249_131 rfl ?_
  refine jT_fB [0, 1, 2, 3, 4, 5, 6, 7, 8, 9, 10, 11, 12, 13, 14, 15] 16 (y := 191) (pcN := 135) (dC := 0) (bc1 := 0) (bc2 := 0) (c1 := 0) (c2 := 0) (as := [(4, 0), (0, 0), (0, 2)]) (asC := [(4, 0), (0, 0), (0, 2)]) (LN := [(4, (1, 0)), (0, (4, 0)), (1, (0, x1)), (2, (0, x2)), (3, (0, x3))]) (stN := []) (hsC := jpA_22) (hsD := jpA_361) (v := (0, 1)) (st2 := [(0, 1)]) (hs2 := jpA_2089) (jA_191_99 (d := 0)) (by rfl) (by rfl) (by decide +kernel) (by rfl) (by rfl) (by omega) (by omega) (by omega) (by omega) rfl (by decide +kernel) ?_
  refine jT_xifT (pcN := 155) jI_249_135 rfl (by decide +kernel) rfl ?_
  refine jT_xiconst (k := 0) (pcN := 156) jI_249_155 rfl ?_
  exact jT_ret rfl (by decide) (by show 16 ≤ 16; decide) (by omega) (by omega) ⟨rfl, rfl, rfl⟩
theorem jA_130_518 {xs : List Int} {d : Nat} {x1 x2 x3 : Int} (h_x1 : 0 ≤ x1 ∧ x1 ≤ 3) (h_x2 : 0 ≤ x2 ∧ x2 ≤ 7) (h_x3 : 8 ≤ x3 ∧ x3 ≤ 2147483647) : jT xs (d + 1) 130 12 0 [(0, (4, 0)), (1, (0, x1)), (2, (0, x2)), (3, (0, x3))] [] jpA_6 1 6 (fun k v hsN => k = 1 ∧ v = (0, 0) ∧ hsN = jpA_6 ++ []) := by
  refine jT_xaload_n (v := (4, 0)) (pcN := 1) jI_130_0 rfl rfl rfl ?_
  refine jT_xiload_n (v := (0, x1)) (pcN := 2) jI_130_1 rfl rfl rfl ?_
  refine jT_xiconst (k := 4) (pcN := 3) jI_130_2 rfl ?_
  refine jT_fR [0] 12 (y := 115) (pcN := 6) (dC := 0) (bc1 := 0) (bc2 := 0) (c1 := 1) (c2 := 6) (as := [(4, 0), (0, x1), (0, 4)]) (asC := [(4, 0), (0, x1), (0, 4)]) (LN := [(0, (4, 0)), (1, (0, x1)), (2, (0, x2)), (3, (0, x3))]) (stN := []) (hsC := [jgh]) (v := (9, 0)) (st2 := []) (jA_115_315 (d := 0) (by omega)) (by rfl) (by rfl) (by decide +kernel) (by rfl) (by rfl) (by omega) (by omega) (by omega) (by omega) rfl ?_
  refine jT_xaload_n (v := (4, 0)) (pcN := 7) jI_130_6 rfl rfl rfl ?_
  refine jT_xiload_n (v := (0, x2)) (pcN := 8) jI_130_7 rfl rfl rfl ?_
  refine jT_xbipush (k := 8) (pcN := 10) jI_130_8 (by decide) rfl ?_
  refine jT_fR [0] 12 (y := 115) (pcN := 13) (dC := 0) (bc1 := 0) (bc2 := 0) (c1 := 1) (c2 := 6) (as := [(4, 0), (0, x2), (0, 8)]) (asC := [(4, 0), (0, x2), (0, 8)]) (LN := [(0, (4, 0)), (1, (0, x1)), (2, (0, x2)), (3, (0, x3))]) (stN := []) (hsC := [jgh]) (v := (9, 0)) (st2 := []) (jA_115_16 (d := 0) (by omega)) (by rfl) (by rfl) (by decide +kernel) (by rfl) (by rfl) (by omega) (by omega) (by omega) (by omega) rfl ?_
  refine jT_xaload_n (v := (4, 0)) (pcN := 14) jI_130_13 rfl rfl rfl ?_
  refine jT_xiload_n (v := (0, x3)) (pcN := 15) jI_130_14 rfl rfl rfl ?_
  refine jT_xbipush (k := 8) (pcN := 17) jI_130_15 (by decide) rfl ?_
  exact jT_fX [0] 12 (y := 115) (pcN := 20) (dC := 0) (bc1 := 1) (bc2 := 6) (as := [(4, 0), (0, x3), (0, 8)]) (asC := [(4, 0), (0, x3), (0, 8)]) (LN := [(0, (4, 0)), (1, (0, x1)), (2, (0, x2)), (3, (0, x3))]) (stN := []) (hsC := [jgh]) (e := 0) (jA_115_55 (d := 0) (by omega)) (by rfl) (by rfl) (by decide +kernel) (by rfl) (by rfl) (by omega) (by omega) (by omega) (by omega) ⟨rfl, ⟨rfl, rfl, rfl⟩⟩
theorem jA_338_519 {xs : List Int} {d : Nat} {x1 x2 x3 : Int} (h_x1 : 0 ≤ x1 ∧ x1 ≤ 3) (h_x2 : 0 ≤ x2 ∧ x2 ≤ 7) (h_x3 : 8 ≤ x3 ∧ x3 ≤ 2147483647) : jT xs (d + 2) 338 13 0 [(0, (4, 0)), (1, (0, x1)), (2, (0, x2)), (3, (0, x3)), (4, (4, 1))] [] jpA_15 1 6 (fun k v hsN => k = 0 ∧ v = (0, 1) ∧ hsN = jpA_15 ++ []) := by
  refine jT_xaload (v := (4, 1)) (pcN := 2) jI_338_0 rfl rfl rfl ?_
  refine jT_xiconst (k := 0) (pcN := 3) jI_338_2 rfl ?_
  refine jT_xaload_n (v := (4, 0)) (pcN := 4) jI_338_3 rfl rfl rfl ?_
  refine jT_xiload_n (v := (0, x1)) (pcN := 5) jI_338_4 rfl rfl rfl ?_
  refine jT_xiload_n (v := (0, x2)) (pcN := 6) jI_338_5 rfl rfl rfl ?_
  refine jT_xiload_n (v := (0, x3)) (pcN := 7) jI_338_6 rfl rfl rfl ?_
  exact jT_fX [0, 2, 3, 4, 5, 6, 7, 8, 9, 10, 11, 12] 13 (y := 130) (pcN := 10) (dC := 1) (bc1 := 1) (bc2 := 6) (as := [(4, 0), (0, x1), (0, x2), (0, x3)]) (asC := [(4, 0), (0, x1), (0, x2), (0, x3)]) (LN := [(0, (4, 0)), (1, (0, x1)), (2, (0, x2)), (3, (0, x3)), (4, (4, 1))]) (stN := [(0, 0), (4, 1)]) (hsC := jpA_6) (e := 0) (jA_130_518 (d := 0) (by omega) (by omega) (by omega)) (by rfl) (by rfl) (by decide +kernel) (by rfl) (by rfl) (by omega) (by omega) (by omega) (by omega) (show _ from ⟨rfl, rfl, rfl⟩)
theorem jA_249_520 {xs : List Int} {d : Nat} {x1 x2 x3 : Int} (h_x1 : 0 ≤ x1 ∧ x1 ≤ 3) (h_x2 : 0 ≤ x2 ∧ x2 ≤ 7) (h_x3 : 8 ≤ x3 ∧ x3 ≤ 2147483647) : jT xs (d + 2) 249 16 0 [(0, (4, 0)), (1, (0, x1)), (2, (0, x2)), (3, (0, x3))] [] jpA_22 0 0 (fun k v hsN => k = 0 ∧ v = (0, 0) ∧ hsN = jpA_20) := by
  refine jT_xaload_n (v := (4, 0)) (pcN := 1) jI_249_0 rfl rfl rfl ?_
  refine jT_xiload_n (v := (0, x1)) (pcN := 2) jI_249_1 rfl rfl rfl ?_
  refine jT_fR [] 16 (y := 238) (pcN := 5) (dC := 1) (bc1 := 0) (bc2 := 0) (c1 := 0) (c2 := 0) (as := [(0, x1)]) (asC := [(0, x1)]) (LN := [(0, (4, 0)), (1, (0, x1)), (2, (0, x2)), (3, (0, x3))]) (stN := [(4, 0)]) (hsC := []) (v := (0, 1)) (st2 := [(0, 1), (4, 0)]) (jA_238_318 (d := 0) (by omega)) (by rfl) (by rfl) (by decide +kernel) (by rfl) (by rfl) (by omega) (by omega) (by omega) (by omega) rfl ?_
  refine jT_xifF (t := 26) (pcN := 8) jI_249_5 rfl (by decide +kernel) rfl rfl ?_
  refine jT_xiload_n (v := (0, x2)) (pcN := 9) jI_249_8 rfl rfl rfl ?_
  refine jT_fR [] 16 (y := 188) (pcN := 12) (dC := 1) (bc1 := 0) (bc2 := 0) (c1 := 0) (c2 := 0) (as := [(0, x2)]) (asC := [(0, x2)]) (LN := [(0, (4, 0)), (1, (0, x1)), (2, (0, x2)), (3, (0, x3))]) (stN := [(4, 0)]) (hsC := []) (v := (0, 1)) (st2 := [(0, 1), (4, 0)]) (jA_188_20 (d := 0) (by omega)) (by rfl) (by rfl) (by decide +kernel) (by rfl) (by rfl) (by omega) (by omega) (by omega) (by omega) rfl ?_
  refine jT_xifF (t := 26) (pcN := 15) jI_249_12 rfl (by decide +kernel) rfl rfl ?_
  refine jT_xiload_n (v := (0, x3)) (pcN := 16) jI_249_15 rfl rfl rfl ?_
  refine jT_fR [] 16 (y := 188) (pcN := 19) (dC := 1) (bc1 := 0) (bc2 := 0) (c1 := 0) (c2 := 0) (as := [(0, x3)]) (asC := [(0, x3)]) (LN := [(0, (4, 0)), (1, (0, x1)), (2, (0, x2)), (3, (0, x3))]) (stN := [(4, 0)]) (hsC := []) (v := (0, 0)) (st2 := [(0, 0), (4, 0)]) (jA_188_58 (d := 0) (by omega)) (by rfl) (by rfl) (by decide +kernel) (by rfl) (by rfl) (by omega) (by omega) (by omega) (by omega) rfl ?_
  refine jT_xifT (pcN := 26) jI_249_19 rfl (by decide +kernel) rfl ?_
  refine jT_xiconst (k := 0) (pcN := 27) jI_249_26 rfl ?_
  refine jT_fB [0, 1, 2, 3, 4, 5, 6, 7, 8, 9, 10, 11, 12, 13, 14, 15] 16 (y := 190) (pcN := 30) (dC := 1) (bc1 := 0) (bc2 := 0) (c1 := 0) (c2 := 0) (as := [(4, 0), (0, 0)]) (asC := [(4, 0), (0, 0)]) (LN := [(0, (4, 0)), (1, (0, x1)), (2, (0, x2)), (3, (0, x3))]) (stN := []) (hsC := jpA_22) (hsD := jpA_20) (v := (0, 1)) (st2 := [(0, 1)]) (hs2 := jpA_20) (jA_190_6 (d := 0)) (by rfl) (by rfl) (by decide +kernel) (by rfl) (by rfl) (by omega) (by omega) (by omega) (by omega) rfl (by decide +kernel) ?_
  refine jT_xifF (t := 35) (pcN := 33) jI_249_30 rfl (by decide +kernel) rfl rfl ?_
  refine jT_xiconst (k := 0) (pcN := 34) jI_249_33 rfl ?_
  exact jT_ret rfl (by decide) (by show 16 ≤ 16; decide) (by omega) (by omega) ⟨rfl, rfl, rfl⟩
theorem jA_130_521 {xs : List Int} {d : Nat} {x1 x2 x3 : Int} (h_x1 : 0 ≤ x1 ∧ x1 ≤ 3) (h_x2 : 8 ≤ x2 ∧ x2 ≤ 2147483647) (h_x3 : (-2147483648) ≤ x3 ∧ x3 ≤ 2147483647) : jT xs (d + 1) 130 12 0 [(0, (4, 0)), (1, (0, x1)), (2, (0, x2)), (3, (0, x3))] [] jpA_6 1 6 (fun k v hsN => k = 1 ∧ v = (0, 0) ∧ hsN = jpA_6 ++ []) := by
  refine jT_xaload_n (v := (4, 0)) (pcN := 1) jI_130_0 rfl rfl rfl ?_
  refine jT_xiload_n (v := (0, x1)) (pcN := 2) jI_130_1 rfl rfl rfl ?_
  refine jT_xiconst (k := 4) (pcN := 3) jI_130_2 rfl ?_
  refine jT_fR [0] 12 (y := 115) (pcN := 6) (dC := 0) (bc1 := 0) (bc2 := 0) (c1 := 1) (c2 := 6) (as := [(4, 0), (0, x1), (0, 4)]) (asC := [(4, 0), (0, x1), (0, 4)]) (LN := [(0, (4, 0)), (1, (0, x1)), (2, (0, x2)), (3, (0, x3))]) (stN := []) (hsC := [jgh]) (v := (9, 0)) (st2 := []) (jA_115_315 (d := 0) (by omega)) (by rfl) (by rfl) (by decide +kernel) (by rfl) (by rfl) (by omega) (by omega) (by omega) (by omega) rfl ?_
  refine jT_xaload_n (v := (4, 0)) (pcN := 7) jI_130_6 rfl rfl rfl ?_
  refine jT_xiload_n (v := (0, x2)) (pcN := 8) jI_130_7 rfl rfl rfl ?_
  refine jT_xbipush (k := 8) (pcN := 10) jI_130_8 (by decide) rfl ?_
  exact jT_fX [0] 12 (y := 115) (pcN := 13) (dC := 0) (bc1 := 1) (bc2 := 6) (as := [(4, 0), (0, x2), (0, 8)]) (asC := [(4, 0), (0, x2), (0, 8)]) (LN := [(0, (4, 0)), (1, (0, x1)), (2, (0, x2)), (3, (0, x3))]) (stN := []) (hsC := [jgh]) (e := 0) (jA_115_60 (d := 0) (by omega)) (by rfl) (by rfl) (by decide +kernel) (by rfl) (by rfl) (by omega) (by omega) (by omega) (by omega) ⟨rfl, ⟨rfl, rfl, rfl⟩⟩
theorem jA_338_522 {xs : List Int} {d : Nat} {x1 x2 x3 : Int} (h_x1 : 0 ≤ x1 ∧ x1 ≤ 3) (h_x2 : 8 ≤ x2 ∧ x2 ≤ 2147483647) (h_x3 : (-2147483648) ≤ x3 ∧ x3 ≤ 2147483647) : jT xs (d + 2) 338 13 0 [(0, (4, 0)), (1, (0, x1)), (2, (0, x2)), (3, (0, x3)), (4, (4, 1))] [] jpA_15 1 6 (fun k v hsN => k = 0 ∧ v = (0, 1) ∧ hsN = jpA_15 ++ []) := by
  refine jT_xaload (v := (4, 1)) (pcN := 2) jI_338_0 rfl rfl rfl ?_
  refine jT_xiconst (k := 0) (pcN := 3) jI_338_2 rfl ?_
  refine jT_xaload_n (v := (4, 0)) (pcN := 4) jI_338_3 rfl rfl rfl ?_
  refine jT_xiload_n (v := (0, x1)) (pcN := 5) jI_338_4 rfl rfl rfl ?_
  refine jT_xiload_n (v := (0, x2)) (pcN := 6) jI_338_5 rfl rfl rfl ?_
  refine jT_xiload_n (v := (0, x3)) (pcN := 7) jI_338_6 rfl rfl rfl ?_
  exact jT_fX [0, 2, 3, 4, 5, 6, 7, 8, 9, 10, 11, 12] 13 (y := 130) (pcN := 10) (dC := 1) (bc1 := 1) (bc2 := 6) (as := [(4, 0), (0, x1), (0, x2), (0, x3)]) (asC := [(4, 0), (0, x1), (0, x2), (0, x3)]) (LN := [(0, (4, 0)), (1, (0, x1)), (2, (0, x2)), (3, (0, x3)), (4, (4, 1))]) (stN := [(0, 0), (4, 1)]) (hsC := jpA_6) (e := 0) (jA_130_521 (d := 0) (by omega) (by omega) (by omega)) (by rfl) (by rfl) (by decide +kernel) (by rfl) (by rfl) (by omega) (by omega) (by omega) (by omega) (show _ from ⟨rfl, rfl, rfl⟩)
theorem jA_249_523 {xs : List Int} {d : Nat} {x1 x2 x3 : Int} (h_x1 : 0 ≤ x1 ∧ x1 ≤ 3) (h_x2 : 8 ≤ x2 ∧ x2 ≤ 2147483647) (h_x3 : (-2147483648) ≤ x3 ∧ x3 ≤ 2147483647) : jT xs (d + 2) 249 16 0 [(0, (4, 0)), (1, (0, x1)), (2, (0, x2)), (3, (0, x3))] [] jpA_22 0 0 (fun k v hsN => k = 0 ∧ v = (0, 0) ∧ hsN = jpA_20) := by
  refine jT_xaload_n (v := (4, 0)) (pcN := 1) jI_249_0 rfl rfl rfl ?_
  refine jT_xiload_n (v := (0, x1)) (pcN := 2) jI_249_1 rfl rfl rfl ?_
  refine jT_fR [] 16 (y := 238) (pcN := 5) (dC := 1) (bc1 := 0) (bc2 := 0) (c1 := 0) (c2 := 0) (as := [(0, x1)]) (asC := [(0, x1)]) (LN := [(0, (4, 0)), (1, (0, x1)), (2, (0, x2)), (3, (0, x3))]) (stN := [(4, 0)]) (hsC := []) (v := (0, 1)) (st2 := [(0, 1), (4, 0)]) (jA_238_318 (d := 0) (by omega)) (by rfl) (by rfl) (by decide +kernel) (by rfl) (by rfl) (by omega) (by omega) (by omega) (by omega) rfl ?_
  refine jT_xifF (t := 26) (pcN := 8) jI_249_5 rfl (by decide +kernel) rfl rfl ?_
  refine jT_xiload_n (v := (0, x2)) (pcN := 9) jI_249_8 rfl rfl rfl ?_
  refine jT_fR [] 16 (y := 188) (pcN := 12) (dC := 1) (bc1 := 0) (bc2 := 0) (c1 := 0) (c2 := 0) (as := [(0, x2)]) (asC := [(0, x2)]) (LN := [(0, (4, 0)), (1, (0, x1)), (2, (0, x2)), (3, (0, x3))]) (stN := [(4, 0)]) (hsC := []) (v := (0, 0)) (st2 := [(0, 0), (4, 0)]) (jA_188_63 (d := 0) (by omega)) (by rfl) (by rfl) (by decide +kernel) (by rfl) (by rfl) (by omega) (by omega) (by omega) (by omega) rfl ?_
  refine jT_xifT (pcN := 26) jI_249_12 rfl (by decide +kernel) rfl ?_
  refine jT_xiconst (k := 0) (pcN := 27) jI_249_26 rfl ?_
  refine jT_fB [0, 1, 2, 3, 4, 5, 6, 7, 8, 9, 10, 11, 12, 13, 14, 15] 16 (y := 190) (pcN := 30) (dC := 1) (bc1 := 0) (bc2 := 0) (c1 := 0) (c2 := 0) (as := [(4, 0), (0, 0)]) (asC := [(4, 0), (0, 0)]) (LN := [(0, (4, 0)), (1, (0, x1)), (2, (0, x2)), (3, (0, x3))]) (stN := []) (hsC := jpA_22) (hsD := jpA_20) (v := (0, 1)) (st2 := [(0, 1)]) (hs2 := jpA_20) (jA_190_6 (d := 0)) (by rfl) (by rfl) (by decide +kernel) (by rfl) (by rfl) (by omega) (by omega) (by omega) (by omega) rfl (by decide +kernel) ?_
  refine jT_xifF (t := 35) (pcN := 33) jI_249_30 rfl (by decide +kernel) rfl rfl ?_
  refine jT_xiconst (k := 0) (pcN := 34) jI_249_33 rfl ?_
  exact jT_ret rfl (by decide) (by show 16 ≤ 16; decide) (by omega) (by omega) ⟨rfl, rfl, rfl⟩
theorem jA_130_524 {xs : List Int} {d : Nat} {x1 x2 x3 : Int} (h_x1 : 4 ≤ x1 ∧ x1 ≤ 2147483647) (h_x2 : (-2147483648) ≤ x2 ∧ x2 ≤ 2147483647) (h_x3 : (-2147483648) ≤ x3 ∧ x3 ≤ 2147483647) : jT xs (d + 1) 130 12 0 [(0, (4, 0)), (1, (0, x1)), (2, (0, x2)), (3, (0, x3))] [] jpA_6 1 6 (fun k v hsN => k = 1 ∧ v = (0, 0) ∧ hsN = jpA_6 ++ []) := by
  refine jT_xaload_n (v := (4, 0)) (pcN := 1) jI_130_0 rfl rfl rfl ?_
  refine jT_xiload_n (v := (0, x1)) (pcN := 2) jI_130_1 rfl rfl rfl ?_
  refine jT_xiconst (k := 4) (pcN := 3) jI_130_2 rfl ?_
  exact jT_fX [0] 12 (y := 115) (pcN := 6) (dC := 0) (bc1 := 1) (bc2 := 6) (as := [(4, 0), (0, x1), (0, 4)]) (asC := [(4, 0), (0, x1), (0, 4)]) (LN := [(0, (4, 0)), (1, (0, x1)), (2, (0, x2)), (3, (0, x3))]) (stN := []) (hsC := [jgh]) (e := 0) (jA_115_405 (d := 0) (by omega)) (by rfl) (by rfl) (by decide +kernel) (by rfl) (by rfl) (by omega) (by omega) (by omega) (by omega) ⟨rfl, ⟨rfl, rfl, rfl⟩⟩
theorem jA_338_525 {xs : List Int} {d : Nat} {x1 x2 x3 : Int} (h_x1 : 4 ≤ x1 ∧ x1 ≤ 2147483647) (h_x2 : (-2147483648) ≤ x2 ∧ x2 ≤ 2147483647) (h_x3 : (-2147483648) ≤ x3 ∧ x3 ≤ 2147483647) : jT xs (d + 2) 338 13 0 [(0, (4, 0)), (1, (0, x1)), (2, (0, x2)), (3, (0, x3)), (4, (4, 1))] [] jpA_15 1 6 (fun k v hsN => k = 0 ∧ v = (0, 1) ∧ hsN = jpA_15 ++ []) := by
  refine jT_xaload (v := (4, 1)) (pcN := 2) jI_338_0 rfl rfl rfl ?_
  refine jT_xiconst (k := 0) (pcN := 3) jI_338_2 rfl ?_
  refine jT_xaload_n (v := (4, 0)) (pcN := 4) jI_338_3 rfl rfl rfl ?_
  refine jT_xiload_n (v := (0, x1)) (pcN := 5) jI_338_4 rfl rfl rfl ?_
  refine jT_xiload_n (v := (0, x2)) (pcN := 6) jI_338_5 rfl rfl rfl ?_
  refine jT_xiload_n (v := (0, x3)) (pcN := 7) jI_338_6 rfl rfl rfl ?_
  exact jT_fX [0, 2, 3, 4, 5, 6, 7, 8, 9, 10, 11, 12] 13 (y := 130) (pcN := 10) (dC := 1) (bc1 := 1) (bc2 := 6) (as := [(4, 0), (0, x1), (0, x2), (0, x3)]) (asC := [(4, 0), (0, x1), (0, x2), (0, x3)]) (LN := [(0, (4, 0)), (1, (0, x1)), (2, (0, x2)), (3, (0, x3)), (4, (4, 1))]) (stN := [(0, 0), (4, 1)]) (hsC := jpA_6) (e := 0) (jA_130_524 (d := 0) (by omega) (by omega) (by omega)) (by rfl) (by rfl) (by decide +kernel) (by rfl) (by rfl) (by omega) (by omega) (by omega) (by omega) (show _ from ⟨rfl, rfl, rfl⟩)
theorem jA_249_526 {xs : List Int} {d : Nat} {x1 x2 x3 : Int} (h_x1 : 4 ≤ x1 ∧ x1 ≤ 2147483647) (h_x2 : (-2147483648) ≤ x2 ∧ x2 ≤ 2147483647) (h_x3 : (-2147483648) ≤ x3 ∧ x3 ≤ 2147483647) : jT xs (d + 2) 249 16 0 [(0, (4, 0)), (1, (0, x1)), (2, (0, x2)), (3, (0, x3))] [] jpA_22 0 0 (fun k v hsN => k = 0 ∧ v = (0, 0) ∧ hsN = jpA_20) := by
  refine jT_xaload_n (v := (4, 0)) (pcN := 1) jI_249_0 rfl rfl rfl ?_
  refine jT_xiload_n (v := (0, x1)) (pcN := 2) jI_249_1 rfl rfl rfl ?_
  refine jT_fR [] 16 (y := 238) (pcN := 5) (dC := 1) (bc1 := 0) (bc2 := 0) (c1 := 0) (c2 := 0) (as := [(0, x1)]) (asC := [(0, x1)]) (LN := [(0, (4, 0)), (1, (0, x1)), (2, (0, x2)), (3, (0, x3))]) (stN := [(4, 0)]) (hsC := []) (v := (0, 0)) (st2 := [(0, 0), (4, 0)]) (jA_238_408 (d := 0) (by omega)) (by rfl) (by rfl) (by decide +kernel) (by rfl) (by rfl) (by omega) (by omega) (by omega) (by omega) rfl ?_
  refine jT_xifT (pcN := 26) jI_249_5 rfl (by decide +kernel) rfl ?_
  refine jT_xiconst (k := 0) (pcN := 27) jI_249_26 rfl ?_
  refine jT_fB [0, 1, 2, 3, 4, 5, 6, 7, 8, 9, 10, 11, 12, 13, 14, 15] 16 (y := 190) (pcN := 30) (dC := 1) (bc1 := 0) (bc2 := 0) (c1 := 0) (c2 := 0) (as := [(4, 0), (0, 0)]) (asC := [(4, 0), (0, 0)]) (LN := [(0, (4, 0)), (1, (0, x1)), (2, (0, x2)), (3, (0, x3))]) (stN := []) (hsC := jpA_22) (hsD := jpA_20) (v := (0, 1)) (st2 := [(0, 1)]) (hs2 := jpA_20) (jA_190_6 (d := 0)) (by rfl) (by rfl) (by decide +kernel) (by rfl) (by rfl) (by omega) (by omega) (by omega) (by omega) rfl (by decide +kernel) ?_
  refine jT_xifF (t := 35) (pcN := 33) jI_249_30 rfl (by decide +kernel) rfl rfl ?_
  refine jT_xiconst (k := 0) (pcN := 34) jI_249_33 rfl ?_
  exact jT_ret rfl (by decide) (by show 16 ≤ 16; decide) (by omega) (by omega) ⟨rfl, rfl, rfl⟩
theorem jI_379_1234 : jmI (jm 379) 1234 = (.aload_n 1, 1) := by rfl
theorem jI_379_1235 : jmI (jm 379) 1235 = (.aload_n 0, 1) := by rfl
theorem jI_379_1236 : jmI (jm 379) 1236 = (.iload 5, 2) := by rfl
theorem jI_379_1238 : jmI (jm 379) 1238 = (.iconst 1, 1) := by rfl
theorem jI_379_1239 : jmI (jm 379) 1239 = (.iadd, 1) := by rfl
theorem jI_379_1241 : jmI (jm 379) 1241 = (.aload_n 0, 1) := by rfl
theorem jI_379_1242 : jmI (jm 379) 1242 = (.iload 5, 2) := by rfl
theorem jI_379_1244 : jmI (jm 379) 1244 = (.iconst 2, 1) := by rfl
theorem jI_379_1245 : jmI (jm 379) 1245 = (.iadd, 1) := by rfl
theorem jI_379_1247 : jmI (jm 379) 1247 = (.aload_n 0, 1) := by rfl
theorem jI_379_1248 : jmI (jm 379) 1248 = (.iload 5, 2) := by rfl
theorem jI_379_1250 : jmI (jm 379) 1250 = (.iconst 3, 1) := by rfl
theorem jI_379_1251 : jmI (jm 379) 1251 = (.iadd, 1) := by rfl
theorem jI_379_1253 : jmI (jm 379) 1253 = (.aload_n 3, 1) := by rfl
theorem jI_379_1257 : jmI (jm 379) 1257 = (.istore 6, 2) := by rfl
theorem jI_379_1259 : jmI (jm 379) 1259 = (.aload_n 2, 1) := by rfl
theorem jI_379_1260 : jmI (jm 379) 1260 = (.aload_n 0, 1) := by rfl
theorem jI_379_1261 : jmI (jm 379) 1261 = (.iload 5, 2) := by rfl
theorem jI_379_1263 : jmI (jm 379) 1263 = (.iconst 1, 1) := by rfl
theorem jI_379_1264 : jmI (jm 379) 1264 = (.iadd, 1) := by rfl
theorem jI_379_1266 : jmI (jm 379) 1266 = (.aload_n 0, 1) := by rfl
theorem jI_379_1267 : jmI (jm 379) 1267 = (.iload 5, 2) := by rfl
theorem jI_379_1269 : jmI (jm 379) 1269 = (.iconst 2, 1) := by rfl
theorem jI_379_1270 : jmI (jm 379) 1270 = (.iadd, 1) := by rfl
theorem jI_379_1272 : jmI (jm 379) 1272 = (.aload_n 0, 1) := by rfl
theorem jI_379_1273 : jmI (jm 379) 1273 = (.iload 5, 2) := by rfl
theorem jI_379_1275 : jmI (jm 379) 1275 = (.iconst 3, 1) := by rfl
theorem jI_379_1276 : jmI (jm 379) 1276 = (.iadd, 1) := by rfl
theorem jI_379_1281 : jmI (jm 379) 1281 = (.istore 7, 2) := by rfl
theorem jI_379_1283 : jmI (jm 379) 1283 = (.aload_n 2, 1) := by rfl
theorem jI_379_1287 : jmI (jm 379) 1287 = (.iload 6, 2) := by rfl
theorem jI_379_1289 : jmI (jm 379) 1289 = (.if_icmp .eq 5, 3) := by rfl
theorem jI_379_1294 : jmI (jm 379) 1294 = (.iload 6, 2) := by rfl
theorem jI_379_1296 : jmI (jm 379) 1296 = (.ifCond .ne 15, 3) := by rfl
theorem jI_379_1311 : jmI (jm 379) 1311 = (.goto 2429, 3) := by rfl
set_option maxRecDepth 100000 in
theorem jL_12_0 {d : Nat} {x0 x1 x2 x3 x4 : Int} (h_x0 : (-2147483648) ≤ x0 ∧ x0 ≤ 2147483647) (h_x1 : (-2147483648) ≤ x1 ∧ x1 ≤ (-1)) (h_x2 : (-2147483648) ≤ x2 ∧ x2 ≤ 2147483647) (h_x3 : (-2147483648) ≤ x3 ∧ x3 ≤ 2147483647) (h_x4 : (-2147483648) ≤ x4 ∧ x4 ≤ 2147483647) : jT [x0, x1, x2, x3, x4] (d + 3) 379 30 1234 [(5, (0, 0)), (4, (4, 3)), (3, (4, 2)), (2, (4, 1)), (1, (4, 0)), (0, (6, 0))] [] jpA_267 1 6 (fun k v hsN => k = 0 ∧ v = (0, 1)) := by
  refine jT_xaload_n (v := (4, 0)) (pcN := 1235) jI_379_1234 rfl rfl rfl ?_
  refine jT_xaload_n (v := (6, 0)) (pcN := 1236) jI_379_1235 rfl rfl rfl ?_
  refine jT_xiload (v := (0, 0)) (pcN := 1238) jI_379_1236 rfl rfl rfl ?_
  refine jT_xiconst (k := 1) (pcN := 1239) jI_379_1238 rfl ?_
  refine jT_xiadd (x := 0) (y := 1) (z := 1) (pcN := 1240) jI_379_1239 rfl (by decide) rfl ?_
  refine jT_adv 1 (pcN := 1241) (LN := [(5, (0, 0)), (4, (4, 3)), (3, (4, 2)), (2, (4, 1)), (1, (4, 0)), (0, (6, 0))]) (stN := [(0, x1), (4, 0)]) (hsN := jpA_267) (c1 := 0) (s1 := 0) (c2 := 1) (s2 := 6) (by exact rfl) ?_ (by omega) (by omega)
  refine jT_xaload_n (v := (6, 0)) (pcN := 1242) jI_379_1241 rfl rfl rfl ?_
  refine jT_xiload (v := (0, 0)) (pcN := 1244) jI_379_1242 rfl rfl rfl ?_
  refine jT_xiconst (k := 2) (pcN := 1245) jI_379_1244 rfl ?_
  refine jT_xiadd (x := 0) (y := 2) (z := 2) (pcN := 1246) jI_379_1245 rfl (by decide) rfl ?_
  refine jT_adv 1 (pcN := 1247) (LN := [(5, (0, 0)), (4, (4, 3)), (3, (4, 2)), (2, (4, 1)), (1, (4, 0)), (0, (6, 0))]) (stN := [(0, x2), (0, x1), (4, 0)]) (hsN := jpA_267) (c1 := 0) (s1 := 0) (c2 := 1) (s2 := 6) (by exact rfl) ?_ (by omega) (by omega)
  refine jT_xaload_n (v := (6, 0)) (pcN := 1248) jI_379_1247 rfl rfl rfl ?_
  refine jT_xiload (v := (0, 0)) (pcN := 1250) jI_379_1248 rfl rfl rfl ?_
  refine jT_xiconst (k := 3) (pcN := 1251) jI_379_1250 rfl ?_
  refine jT_xiadd (x := 0) (y := 3) (z := 3) (pcN := 1252) jI_379_1251 rfl (by decide) rfl ?_
  refine jT_adv 1 (pcN := 1253) (LN := [(5, (0, 0)), (4, (4, 3)), (3, (4, 2)), (2, (4, 1)), (1, (4, 0)), (0, (6, 0))]) (stN := [(0, x3), (0, x2), (0, x1), (4, 0)]) (hsN := jpA_267) (c1 := 0) (s1 := 0) (c2 := 1) (s2 := 6) (by exact rfl) ?_ (by omega) (by omega)
  refine jT_xaload_n (v := (4, 2)) (pcN := 1254) jI_379_1253 rfl rfl rfl ?_
  refine jT_fR [0, 2, 4, 5, 6, 7, 8, 9, 10, 11, 12, 13, 14] 30 (y := 338) (pcN := 1257) (dC := 2) (bc1 := 1) (bc2 := 6) (c1 := 0) (c2 := 0) (as := [(4, 0), (0, x1), (0, x2), (0, x3), (4, 2)]) (asC := [(4, 0), (0, x1), (0, x2), (0, x3), (4, 1)]) (LN := [(5, (0, 0)), (4, (4, 3)), (3, (4, 2)), (2, (4, 1)), (1, (4, 0)), (0, (6, 0))]) (stN := []) (hsC := jpA_15) (v := (0, 1)) (st2 := [(0, 1)]) (jA_338_504 (d := 0) (by omega) (by omega) (by omega)) (by rfl) (by rfl) (by decide +kernel) (by rfl) (by rfl) (by omega) (by omega) (by omega) (by omega) rfl ?_
  refine jT_xistore (v := (0, 1)) (LN := [(6, (0, 1)), (5, (0, 0)), (4, (4, 3)), (3, (4, 2)), (2, (4, 1)), (1, (4, 0)), (0, (6, 0))]) (pcN := 1259) jI_379_1257 rfl rfl rfl rfl ?_
  refine jT_xaload_n (v := (4, 1)) (pcN := 1260) jI_379_1259 rfl rfl rfl ?_
  refine jT_xaload_n (v := (6, 0)) (pcN := 1261) jI_379_1260 rfl rfl rfl ?_
  refine jT_xiload (v := (0, 0)) (pcN := 1263) jI_379_1261 rfl rfl rfl ?_
  refine jT_xiconst (k := 1) (pcN := 1264) jI_379_1263 rfl ?_
  refine jT_xiadd (x := 0) (y := 1) (z := 1) (pcN := 1265) jI_379_1264 rfl (by decide) rfl ?_
  refine jT_adv 1 (pcN := 1266) (LN := [(6, (0, 1)), (5, (0, 0)), (4, (4, 3)), (3, (4, 2)), (2, (4, 1)), (1, (4, 0)), (0, (6, 0))]) (stN := [(0, x1), (4, 1)]) (hsN := jpA_267) (c1 := 0) (s1 := 0) (c2 := 0) (s2 := 0) (by exact rfl) ?_ (by omega) (by omega)
  refine jT_xaload_n (v := (6, 0)) (pcN := 1267) jI_379_1266 rfl rfl rfl ?_
  refine jT_xiload (v := (0, 0)) (pcN := 1269) jI_379_1267 rfl rfl rfl ?_
  refine jT_xiconst (k := 2) (pcN := 1270) jI_379_1269 rfl ?_
  refine jT_xiadd (x := 0) (y := 2) (z := 2) (pcN := 1271) jI_379_1270 rfl (by decide) rfl ?_
  refine jT_adv 1 (pcN := 1272) (LN := [(6, (0, 1)), (5, (0, 0)), (4, (4, 3)), (3, (4, 2)), (2, (4, 1)), (1, (4, 0)), (0, (6, 0))]) (stN := [(0, x2), (0, x1), (4, 1)]) (hsN := jpA_267) (c1 := 0) (s1 := 0) (c2 := 0) (s2 := 0) (by exact rfl) ?_ (by omega) (by omega)
  refine jT_xaload_n (v := (6, 0)) (pcN := 1273) jI_379_1272 rfl rfl rfl ?_
  refine jT_xiload (v := (0, 0)) (pcN := 1275) jI_379_1273 rfl rfl rfl ?_
  refine jT_xiconst (k := 3) (pcN := 1276) jI_379_1275 rfl ?_
  refine jT_xiadd (x := 0) (y := 3) (z := 3) (pcN := 1277) jI_379_1276 rfl (by decide) rfl ?_
  refine jT_adv 1 (pcN := 1278) (LN := [(6, (0, 1)), (5, (0, 0)), (4, (4, 3)), (3, (4, 2)), (2, (4, 1)), (1, (4, 0)), (0, (6, 0))]) (stN := [(0, x3), (0, x2), (0, x1), (4, 1)]) (hsN := jpA_267) (c1 := 0) (s1 := 0) (c2 := 0) (s2 := 0) (by exact rfl) ?_ (by omega) (by omega)
  refine jT_fB [1, 15, 16, 17, 18, 19, 20, 21, 22, 23, 24, 25, 26, 27, 28, 29] 30 (y := 249) (pcN := 1281) (dC := 2) (bc1 := 0) (bc2 := 0) (c1 := 0) (c2 := 0) (as := [(4, 1), (0, x1), (0, x2), (0, x3)]) (asC := [(4, 0), (0, x1), (0, x2), (0, x3)]) (LN := [(6, (0, 1)), (5, (0, 0)), (4, (4, 3)), (3, (4, 2)), (2, (4, 1)), (1, (4, 0)), (0, (6, 0))]) (stN := []) (hsC := jpA_22) (hsD := jpA_20) (v := (0, 0)) (st2 := [(0, 0)]) (hs2 := jpA_306) (jA_249_505 (d := 0) (by omega) (by omega) (by omega)) (by rfl) (by rfl) (by decide +kernel) (by rfl) (by rfl) (by omega) (by omega) (by omega) (by omega) rfl (by decide +kernel) ?_
  refine jT_xistore (v := (0, 0)) (LN := [(7, (0, 0)), (6, (0, 1)), (5, (0, 0)), (4, (4, 3)), (3, (4, 2)), (2, (4, 1)), (1, (4, 0)), (0, (6, 0))]) (pcN := 1283) jI_379_1281 rfl rfl rfl rfl ?_
  refine jT_xaload_n (v := (4, 1)) (pcN := 1284) jI_379_1283 rfl rfl rfl ?_
  refine jT_fR [1, 15, 16, 17, 18, 19, 20, 21, 22, 23, 24, 25, 26, 27, 28, 29] 30 (y := 186) (pcN := 1287) (dC := 0) (bc1 := 0) (bc2 := 0) (c1 := 0) (c2 := 0) (as := [(4, 1)]) (asC := [(4, 0)]) (LN := [(7, (0, 0)), (6, (0, 1)), (5, (0, 0)), (4, (4, 3)), (3, (4, 2)), (2, (4, 1)), (1, (4, 0)), (0, (6, 0))]) (stN := []) (hsC := jpA_20) (v := (0, 1)) (st2 := [(0, 1)]) (jA_186_8 (d := 0)) (by rfl) (by rfl) (by decide +kernel) (by rfl) (by rfl) (by omega) (by omega) (by omega) (by omega) rfl ?_
  refine jT_xiload (v := (0, 1)) (pcN := 1289) jI_379_1287 rfl rfl rfl ?_
  refine jT_xicT (pcN := 1294) jI_379_1289 rfl (by decide +kernel) rfl ?_
  refine jT_xiload (v := (0, 1)) (pcN := 1296) jI_379_1294 rfl rfl rfl ?_
  refine jT_xifT (pcN := 1311) jI_379_1296 rfl (by decide +kernel) rfl ?_
  refine jT_xgoto (pcN := 3740) jI_379_1311 rfl ?_
  refine jT_xiinc (x := 0) (z := 5) (LN := [(5, (0, 5)), (7, (0, 0)), (6, (0, 1)), (4, (4, 3)), (3, (4, 2)), (2, (4, 1)), (1, (4, 0)), (0, (6, 0))]) (pcN := 3743) jI_379_3740 rfl rfl (by decide) rfl rfl ?_
  refine jT_xgoto (pcN := 28) jI_379_3743 rfl ?_
  refine jT_xiload (v := (0, 5)) (pcN := 30) jI_379_28 rfl rfl rfl ?_
  refine jT_xaload_n (v := (6, 0)) (pcN := 31) jI_379_30 rfl rfl rfl ?_
  refine jT_adv 1 (pcN := 32) (LN := [(5, (0, 5)), (7, (0, 0)), (6, (0, 1)), (4, (4, 3)), (3, (4, 2)), (2, (4, 1)), (1, (4, 0)), (0, (6, 0))]) (stN := [(0, 5), (0, 5)]) (hsN := jpA_306) (c1 := 0) (s1 := 0) (c2 := 0) (s2 := 0) (by exact rfl) ?_ (by omega) (by omega)
  refine jT_xiconst (k := 5) (pcN := 33) jI_379_32 rfl ?_
  refine jT_xisub (x := 5) (y := 5) (z := 0) (pcN := 34) jI_379_33 rfl (by decide) rfl ?_
  refine jT_xicT (pcN := 3746) jI_379_34 rfl (by decide +kernel) rfl ?_
  refine jT_xiconst (k := 1) (pcN := 3747) jI_379_3746 rfl ?_
  exact jT_ret rfl (by decide) (by show 30 ≤ 30; decide) (by omega) (by omega) ⟨rfl, rfl⟩
set_option maxRecDepth 100000 in
theorem jL_12_1 {d : Nat} {x0 x1 x2 x3 x4 : Int} (h_x0 : (-2147483648) ≤ x0 ∧ x0 ≤ 2147483647) (h_x1 : 0 ≤ x1 ∧ x1 ≤ 3) (h_x2 : (-2147483648) ≤ x2 ∧ x2 ≤ (-1)) (h_x3 : (-2147483648) ≤ x3 ∧ x3 ≤ 2147483647) (h_x4 : (-2147483648) ≤ x4 ∧ x4 ≤ 2147483647) : jT [x0, x1, x2, x3, x4] (d + 3) 379 30 1234 [(5, (0, 0)), (4, (4, 3)), (3, (4, 2)), (2, (4, 1)), (1, (4, 0)), (0, (6, 0))] [] jpA_267 1 6 (fun k v hsN => k = 0 ∧ v = (0, 1)) := by
  refine jT_xaload_n (v := (4, 0)) (pcN := 1235) jI_379_1234 rfl rfl rfl ?_
  refine jT_xaload_n (v := (6, 0)) (pcN := 1236) jI_379_1235 rfl rfl rfl ?_
  refine jT_xiload (v := (0, 0)) (pcN := 1238) jI_379_1236 rfl rfl rfl ?_
  refine jT_xiconst (k := 1) (pcN := 1239) jI_379_1238 rfl ?_
  refine jT_xiadd (x := 0) (y := 1) (z := 1) (pcN := 1240) jI_379_1239 rfl (by decide) rfl ?_
  refine jT_adv 1 (pcN := 1241) (LN := [(5, (0, 0)), (4, (4, 3)), (3, (4, 2)), (2, (4, 1)), (1, (4, 0)), (0, (6, 0))]) (stN := [(0, x1), (4, 0)]) (hsN := jpA_267) (c1 := 0) (s1 := 0) (c2 := 1) (s2 := 6) (by exact rfl) ?_ (by omega) (by omega)
  refine jT_xaload_n (v := (6, 0)) (pcN := 1242) jI_379_1241 rfl rfl rfl ?_
  refine jT_xiload (v := (0, 0)) (pcN := 1244) jI_379_1242 rfl rfl rfl ?_
  refine jT_xiconst (k := 2) (pcN := 1245) jI_379_1244 rfl ?_
  refine jT_xiadd (x := 0) (y := 2) (z := 2) (pcN := 1246) jI_379_1245 rfl (by decide) rfl ?_
  refine jT_adv 1 (pcN := 1247) (LN := [(5, (0, 0)), (4, (4, 3)), (3, (4, 2)), (2, (4, 1)), (1, (4, 0)), (0, (6, 0))]) (stN := [(0, x2), (0, x1), (4, 0)]) (hsN := jpA_267) (c1 := 0) (s1 := 0) (c2 := 1) (s2 := 6) (by exact rfl) ?_ (by omega) (by omega)
  refine jT_xaload_n (v := (6, 0)) (pcN := 1248) jI_379_1247 rfl rfl rfl ?_
  refine jT_xiload (v := (0, 0)) (pcN := 1250) jI_379_1248 rfl rfl rfl ?_
  refine jT_xiconst (k := 3) (pcN := 1251) jI_379_1250 rfl ?_
  refine jT_xiadd (x := 0) (y := 3) (z := 3) (pcN := 1252) jI_379_1251 rfl (by decide) rfl ?_
  refine jT_adv 1 (pcN := 1253) (LN := [(5, (0, 0)), (4, (4, 3)), (3, (4, 2)), (2, (4, 1)), (1, (4, 0)), (0, (6, 0))]) (stN := [(0, x3), (0, x2), (0, x1), (4, 0)]) (hsN := jpA_267) (c1 := 0) (s1 := 0) (c2 := 1) (s2 := 6) (by exact rfl) ?_ (by omega) (by omega)
  refine jT_xaload_n (v := (4, 2)) (pcN := 1254) jI_379_1253 rfl rfl rfl ?_
  refine jT_fR [0, 2, 4, 5, 6, 7, 8, 9, 10, 11, 12, 13, 14] 30 (y := 338) (pcN := 1257) (dC := 2) (bc1 := 1) (bc2 := 6) (c1 := 0) (c2 := 0) (as := [(4, 0), (0, x1), (0, x2), (0, x3), (4, 2)]) (asC := [(4, 0), (0, x1), (0, x2), (0, x3), (4, 1)]) (LN := [(5, (0, 0)), (4, (4, 3)), (3, (4, 2)), (2, (4, 1)), (1, (4, 0)), (0, (6, 0))]) (stN := []) (hsC := jpA_15) (v := (0, 1)) (st2 := [(0, 1)]) (jA_338_507 (d := 0) (by omega) (by omega) (by omega)) (by rfl) (by rfl) (by decide +kernel) (by rfl) (by rfl) (by omega) (by omega) (by omega) (by omega) rfl ?_
  refine jT_xistore (v := (0, 1)) (LN := [(6, (0, 1)), (5, (0, 0)), (4, (4, 3)), (3, (4, 2)), (2, (4, 1)), (1, (4, 0)), (0, (6, 0))]) (pcN := 1259) jI_379_1257 rfl rfl rfl rfl ?_
  refine jT_xaload_n (v := (4, 1)) (pcN := 1260) jI_379_1259 rfl rfl rfl ?_
  refine jT_xaload_n (v := (6, 0)) (pcN := 1261) jI_379_1260 rfl rfl rfl ?_
  refine jT_xiload (v := (0, 0)) (pcN := 1263) jI_379_1261 rfl rfl rfl ?_
  refine jT_xiconst (k := 1) (pcN := 1264) jI_379_1263 rfl ?_
  refine jT_xiadd (x := 0) (y := 1) (z := 1) (pcN := 1265) jI_379_1264 rfl (by decide) rfl ?_
  refine jT_adv 1 (pcN := 1266) (LN := [(6, (0, 1)), (5, (0, 0)), (4, (4, 3)), (3, (4, 2)), (2, (4, 1)), (1, (4, 0)), (0, (6, 0))]) (stN := [(0, x1), (4, 1)]) (hsN := jpA_267) (c1 := 0) (s1 := 0) (c2 := 0) (s2 := 0) (by exact rfl) ?_ (by omega) (by omega)
  refine jT_xaload_n (v := (6, 0)) (pcN := 1267) jI_379_1266 rfl rfl rfl ?_
  refine jT_xiload (v := (0, 0)) (pcN := 1269) jI_379_1267 rfl rfl rfl ?_
  refine jT_xiconst (k := 2) (pcN := 1270) jI_379_1269 rfl ?_
  refine jT_xiadd (x := 0) (y := 2) (z := 2) (pcN := 1271) jI_379_1270 rfl (by decide) rfl ?_
  refine jT_adv 1 (pcN := 1272) (LN := [(6, (0, 1)), (5, (0, 0)), (4, (4, 3)), (3, (4, 2)), (2, (4, 1)), (1, (4, 0)), (0, (6, 0))]) (stN := [(0, x2), (0, x1), (4, 1)]) (hsN := jpA_267) (c1 := 0) (s1 := 0) (c2 := 0) (s2 := 0) (by exact rfl) ?_ (by omega) (by omega)
  refine jT_xaload_n (v := (6, 0)) (pcN := 1273) jI_379_1272 rfl rfl rfl ?_
  refine jT_xiload (v := (0, 0)) (pcN := 1275) jI_379_1273 rfl rfl rfl ?_
  refine jT_xiconst (k := 3) (pcN := 1276) jI_379_1275 rfl ?_
  refine jT_xiadd (x := 0) (y := 3) (z := 3) (pcN := 1277) jI_379_1276 rfl (by decide) rfl ?_
  refine jT_adv 1 (pcN := 1278) (LN := [(6, (0, 1)), (5, (0, 0)), (4, (4, 3)), (3, (4, 2)), (2, (4, 1)), (1, (4, 0)), (0, (6, 0))]) (stN := [(0, x3), (0, x2), (0, x1), (4, 1)]) (hsN := jpA_267) (c1 := 0) (s1 := 0) (c2 := 0) (s2 := 0) (by exact rfl) ?_ (by omega) (by omega)
  refine jT_fB [1, 15, 16, 17, 18, 19, 20, 21, 22, 23, 24, 25, 26, 27, 28, 29] 30 (y := 249) (pcN := 1281) (dC := 2) (bc1 := 0) (bc2 := 0) (c1 := 0) (c2 := 0) (as := [(4, 1), (0, x1), (0, x2), (0, x3)]) (asC := [(4, 0), (0, x1), (0, x2), (0, x3)]) (LN := [(6, (0, 1)), (5, (0, 0)), (4, (4, 3)), (3, (4, 2)), (2, (4, 1)), (1, (4, 0)), (0, (6, 0))]) (stN := []) (hsC := jpA_22) (hsD := jpA_20) (v := (0, 0)) (st2 := [(0, 0)]) (hs2 := jpA_306) (jA_249_508 (d := 0) (by omega) (by omega) (by omega)) (by rfl) (by rfl) (by decide +kernel) (by rfl) (by rfl) (by omega) (by omega) (by omega) (by omega) rfl (by decide +kernel) ?_
  refine jT_xistore (v := (0, 0)) (LN := [(7, (0, 0)), (6, (0, 1)), (5, (0, 0)), (4, (4, 3)), (3, (4, 2)), (2, (4, 1)), (1, (4, 0)), (0, (6, 0))]) (pcN := 1283) jI_379_1281 rfl rfl rfl rfl ?_
  refine jT_xaload_n (v := (4, 1)) (pcN := 1284) jI_379_1283 rfl rfl rfl ?_
  refine jT_fR [1, 15, 16, 17, 18, 19, 20, 21, 22, 23, 24, 25, 26, 27, 28, 29] 30 (y := 186) (pcN := 1287) (dC := 0) (bc1 := 0) (bc2 := 0) (c1 := 0) (c2 := 0) (as := [(4, 1)]) (asC := [(4, 0)]) (LN := [(7, (0, 0)), (6, (0, 1)), (5, (0, 0)), (4, (4, 3)), (3, (4, 2)), (2, (4, 1)), (1, (4, 0)), (0, (6, 0))]) (stN := []) (hsC := jpA_20) (v := (0, 1)) (st2 := [(0, 1)]) (jA_186_8 (d := 0)) (by rfl) (by rfl) (by decide +kernel) (by rfl) (by rfl) (by omega) (by omega) (by omega) (by omega) rfl ?_
  refine jT_xiload (v := (0, 1)) (pcN := 1289) jI_379_1287 rfl rfl rfl ?_
  refine jT_xicT (pcN := 1294) jI_379_1289 rfl (by decide +kernel) rfl ?_
  refine jT_xiload (v := (0, 1)) (pcN := 1296) jI_379_1294 rfl rfl rfl ?_
  refine jT_xifT (pcN := 1311) jI_379_1296 rfl (by decide +kernel) rfl ?_
  refine jT_xgoto (pcN := 3740) jI_379_1311 rfl ?_
  refine jT_xiinc (x := 0) (z := 5) (LN := [(5, (0, 5)), (7, (0, 0)), (6, (0, 1)), (4, (4, 3)), (3, (4, 2)), (2, (4, 1)), (1, (4, 0)), (0, (6, 0))]) (pcN := 3743) jI_379_3740 rfl rfl (by decide) rfl rfl ?_
  refine jT_xgoto (pcN := 28) jI_379_3743 rfl ?_
  refine jT_xiload (v := (0, 5)) (pcN := 30) jI_379_28 rfl rfl rfl ?_
  refine jT_xaload_n (v := (6, 0)) (pcN := 31) jI_379_30 rfl rfl rfl ?_
  refine jT_adv 1 (pcN := 32) (LN := [(5, (0, 5)), (7, (0, 0)), (6, (0, 1)), (4, (4, 3)), (3, (4, 2)), (2, (4, 1)), (1, (4, 0)), (0, (6, 0))]) (stN := [(0, 5), (0, 5)]) (hsN := jpA_306) (c1 := 0) (s1 := 0) (c2 := 0) (s2 := 0) (by exact rfl) ?_ (by omega) (by omega)
  refine jT_xiconst (k := 5) (pcN := 33) jI_379_32 rfl ?_
  refine jT_xisub (x := 5) (y := 5) (z := 0) (pcN := 34) jI_379_33 rfl (by decide) rfl ?_
  refine jT_xicT (pcN := 3746) jI_379_34 rfl (by decide +kernel) rfl ?_
  refine jT_xiconst (k := 1) (pcN := 3747) jI_379_3746 rfl ?_
  exact jT_ret rfl (by decide) (by show 30 ≤ 30; decide) (by omega) (by omega) ⟨rfl, rfl⟩
set_option maxRecDepth 100000 in
theorem jL_12_2 {d : Nat} {x0 x1 x2 x3 x4 : Int} (h_x0 : (-2147483648) ≤ x0 ∧ x0 ≤ 2147483647) (h_x1 : 0 ≤ x1 ∧ x1 ≤ 3) (h_x2 : 0 ≤ x2 ∧ x2 ≤ 7) (h_x3 : (-2147483648) ≤ x3 ∧ x3 ≤ (-1)) (h_x4 : (-2147483648) ≤ x4 ∧ x4 ≤ 2147483647) : jT [x0, x1, x2, x3, x4] (d + 3) 379 30 1234 [(5, (0, 0)), (4, (4, 3)), (3, (4, 2)), (2, (4, 1)), (1, (4, 0)), (0, (6, 0))] [] jpA_267 1 6 (fun k v hsN => k = 0 ∧ v = (0, 1)) := by
  refine jT_xaload_n (v := (4, 0)) (pcN := 1235) jI_379_1234 rfl rfl rfl ?_
  refine jT_xaload_n (v := (6, 0)) (pcN := 1236) jI_379_1235 rfl rfl rfl ?_
  refine jT_xiload (v := (0, 0)) (pcN := 1238) jI_379_1236 rfl rfl rfl ?_
  refine jT_xiconst (k := 1) (pcN := 1239) jI_379_1238 rfl ?_
  refine jT_xiadd (x := 0) (y := 1) (z := 1) (pcN := 1240) jI_379_1239 rfl (by decide) rfl ?_
  refine jT_adv 1 (pcN := 1241) (LN := [(5, (0, 0)), (4, (4, 3)), (3, (4, 2)), (2, (4, 1)), (1, (4, 0)), (0, (6, 0))]) (stN := [(0, x1), (4, 0)]) (hsN := jpA_267) (c1 := 0) (s1 := 0) (c2 := 1) (s2 := 6) (by exact rfl) ?_ (by omega) (by omega)
  refine jT_xaload_n (v := (6, 0)) (pcN := 1242) jI_379_1241 rfl rfl rfl ?_
  refine jT_xiload (v := (0, 0)) (pcN := 1244) jI_379_1242 rfl rfl rfl ?_
  refine jT_xiconst (k := 2) (pcN := 1245) jI_379_1244 rfl ?_
  refine jT_xiadd (x := 0) (y := 2) (z := 2) (pcN := 1246) jI_379_1245 rfl (by decide) rfl ?_
  refine jT_adv 1 (pcN := 1247) (LN := [(5, (0, 0)), (4, (4, 3)), (3, (4, 2)), (2, (4, 1)), (1, (4, 0)), (0, (6, 0))]) (stN := [(0, x2), (0, x1), (4, 0)]) (hsN := jpA_267) (c1 := 0) (s1 := 0) (c2 := 1) (s2 := 6) (by exact rfl) ?_ (by omega) (by omega)
  refine jT_xaload_n (v := (6, 0)) (pcN := 1248) jI_379_1247 rfl rfl rfl ?_
  refine jT_xiload (v := (0, 0)) (pcN := 1250) jI_379_1248 rfl rfl rfl ?_
  refine jT_xiconst (k := 3) (pcN := 1251) jI_379_1250 rfl ?_
  refine jT_xiadd (x := 0) (y := 3) (z := 3) (pcN := 1252) jI_379_1251 rfl (by decide) rfl ?_
  refine jT_adv 1 (pcN := 1253) (LN := [(5, (0, 0)), (4, (4, 3)), (3, (4, 2)), (2, (4, 1)), (1, (4, 0)), (0, (6, 0))]) (stN := [(0, x3), (0, x2), (0, x1), (4, 0)]) (hsN := jpA_267) (c1 := 0) (s1 := 0) (c2 := 1) (s2 := 6) (by exact rfl) ?_ (by omega) (by omega)
  refine jT_xaload_n (v := (4, 2)) (pcN := 1254) jI_379_1253 rfl rfl rfl ?_
  refine jT_fR [0, 2, 4, 5, 6, 7, 8, 9, 10, 11, 12, 13, 14] 30 (y := 338) (pcN := 1257) (dC := 2) (bc1 := 1) (bc2 := 6) (c1 := 0) (c2 := 0) (as := [(4, 0), (0, x1), (0, x2), (0, x3), (4, 2)]) (asC := [(4, 0), (0, x1), (0, x2), (0, x3), (4, 1)]) (LN := [(5, (0, 0)), (4, (4, 3)), (3, (4, 2)), (2, (4, 1)), (1, (4, 0)), (0, (6, 0))]) (stN := []) (hsC := jpA_15) (v := (0, 1)) (st2 := [(0, 1)]) (jA_338_510 (d := 0) (by omega) (by omega) (by omega)) (by rfl) (by rfl) (by decide +kernel) (by rfl) (by rfl) (by omega) (by omega) (by omega) (by omega) rfl ?_
  refine jT_xistore (v := (0, 1)) (LN := [(6, (0, 1)), (5, (0, 0)), (4, (4, 3)), (3, (4, 2)), (2, (4, 1)), (1, (4, 0)), (0, (6, 0))]) (pcN := 1259) jI_379_1257 rfl rfl rfl rfl ?_
  refine jT_xaload_n (v := (4, 1)) (pcN := 1260) jI_379_1259 rfl rfl rfl ?_
  refine jT_xaload_n (v := (6, 0)) (pcN := 1261) jI_379_1260 rfl rfl rfl ?_
  refine jT_xiload (v := (0, 0)) (pcN := 1263) jI_379_1261 rfl rfl rfl ?_
  refine jT_xiconst (k := 1) (pcN := 1264) jI_379_1263 rfl ?_
  refine jT_xiadd (x := 0) (y := 1) (z := 1) (pcN := 1265) jI_379_1264 rfl (by decide) rfl ?_
  refine jT_adv 1 (pcN := 1266) (LN := [(6, (0, 1)), (5, (0, 0)), (4, (4, 3)), (3, (4, 2)), (2, (4, 1)), (1, (4, 0)), (0, (6, 0))]) (stN := [(0, x1), (4, 1)]) (hsN := jpA_267) (c1 := 0) (s1 := 0) (c2 := 0) (s2 := 0) (by exact rfl) ?_ (by omega) (by omega)
  refine jT_xaload_n (v := (6, 0)) (pcN := 1267) jI_379_1266 rfl rfl rfl ?_
  refine jT_xiload (v := (0, 0)) (pcN := 1269) jI_379_1267 rfl rfl rfl ?_
  refine jT_xiconst (k := 2) (pcN := 1270) jI_379_1269 rfl ?_
  refine jT_xiadd (x := 0) (y := 2) (z := 2) (pcN := 1271) jI_379_1270 rfl (by decide) rfl ?_
  refine jT_adv 1 (pcN := 1272) (LN := [(6, (0, 1)), (5, (0, 0)), (4, (4, 3)), (3, (4, 2)), (2, (4, 1)), (1, (4, 0)), (0, (6, 0))]) (stN := [(0, x2), (0, x1), (4, 1)]) (hsN := jpA_267) (c1 := 0) (s1 := 0) (c2 := 0) (s2 := 0) (by exact rfl) ?_ (by omega) (by omega)
  refine jT_xaload_n (v := (6, 0)) (pcN := 1273) jI_379_1272 rfl rfl rfl ?_
  refine jT_xiload (v := (0, 0)) (pcN := 1275) jI_379_1273 rfl rfl rfl ?_
  refine jT_xiconst (k := 3) (pcN := 1276) jI_379_1275 rfl ?_
  refine jT_xiadd (x := 0) (y := 3) (z := 3) (pcN := 1277) jI_379_1276 rfl (by decide) rfl ?_
  refine jT_adv 1 (pcN := 1278) (LN := [(6, (0, 1)), (5, (0, 0)), (4, (4, 3)), (3, (4, 2)), (2, (4, 1)), (1, (4, 0)), (0, (6, 0))]) (stN := [(0, x3), (0, x2), (0, x1), (4, 1)]) (hsN := jpA_267) (c1 := 0) (s1 := 0) (c2 := 0) (s2 := 0) (by exact rfl) ?_ (by omega) (by omega)
  refine jT_fB [1, 15, 16, 17, 18, 19, 20, 21, 22, 23, 24, 25, 26, 27, 28, 29] 30 (y := 249) (pcN := 1281) (dC := 2) (bc1 := 0) (bc2 := 0) (c1 := 0) (c2 := 0) (as := [(4, 1), (0, x1), (0, x2), (0, x3)]) (asC := [(4, 0), (0, x1), (0, x2), (0, x3)]) (LN := [(6, (0, 1)), (5, (0, 0)), (4, (4, 3)), (3, (4, 2)), (2, (4, 1)), (1, (4, 0)), (0, (6, 0))]) (stN := []) (hsC := jpA_22) (hsD := jpA_20) (v := (0, 0)) (st2 := [(0, 0)]) (hs2 := jpA_306) (jA_249_511 (d := 0) (by omega) (by omega) (by omega)) (by rfl) (by rfl) (by decide +kernel) (by rfl) (by rfl) (by omega) (by omega) (by omega) (by omega) rfl (by decide +kernel) ?_
  refine jT_xistore (v := (0, 0)) (LN := [(7, (0, 0)), (6, (0, 1)), (5, (0, 0)), (4, (4, 3)), (3, (4, 2)), (2, (4, 1)), (1, (4, 0)), (0, (6, 0))]) (pcN := 1283) jI_379_1281 rfl rfl rfl rfl ?_
  refine jT_xaload_n (v := (4, 1)) (pcN := 1284) jI_379_1283 rfl rfl rfl ?_
  refine jT_fR [1, 15, 16, 17, 18, 19, 20, 21, 22, 23, 24, 25, 26, 27, 28, 29] 30 (y := 186) (pcN := 1287) (dC := 0) (bc1 := 0) (bc2 := 0) (c1 := 0) (c2 := 0) (as := [(4, 1)]) (asC := [(4, 0)]) (LN := [(7, (0, 0)), (6, (0, 1)), (5, (0, 0)), (4, (4, 3)), (3, (4, 2)), (2, (4, 1)), (1, (4, 0)), (0, (6, 0))]) (stN := []) (hsC := jpA_20) (v := (0, 1)) (st2 := [(0, 1)]) (jA_186_8 (d := 0)) (by rfl) (by rfl) (by decide +kernel) (by rfl) (by rfl) (by omega) (by omega) (by omega) (by omega) rfl ?_
  refine jT_xiload (v := (0, 1)) (pcN := 1289) jI_379_1287 rfl rfl rfl ?_
  refine jT_xicT (pcN := 1294) jI_379_1289 rfl (by decide +kernel) rfl ?_
  refine jT_xiload (v := (0, 1)) (pcN := 1296) jI_379_1294 rfl rfl rfl ?_
  refine jT_xifT (pcN := 1311) jI_379_1296 rfl (by decide +kernel) rfl ?_
  refine jT_xgoto (pcN := 3740) jI_379_1311 rfl ?_
  refine jT_xiinc (x := 0) (z := 5) (LN := [(5, (0, 5)), (7, (0, 0)), (6, (0, 1)), (4, (4, 3)), (3, (4, 2)), (2, (4, 1)), (1, (4, 0)), (0, (6, 0))]) (pcN := 3743) jI_379_3740 rfl rfl (by decide) rfl rfl ?_
  refine jT_xgoto (pcN := 28) jI_379_3743 rfl ?_
  refine jT_xiload (v := (0, 5)) (pcN := 30) jI_379_28 rfl rfl rfl ?_
  refine jT_xaload_n (v := (6, 0)) (pcN := 31) jI_379_30 rfl rfl rfl ?_
  refine jT_adv 1 (pcN := 32) (LN := [(5, (0, 5)), (7, (0, 0)), (6, (0, 1)), (4, (4, 3)), (3, (4, 2)), (2, (4, 1)), (1, (4, 0)), (0, (6, 0))]) (stN := [(0, 5), (0, 5)]) (hsN := jpA_306) (c1 := 0) (s1 := 0) (c2 := 0) (s2 := 0) (by exact rfl) ?_ (by omega) (by omega)
  refine jT_xiconst (k := 5) (pcN := 33) jI_379_32 rfl ?_
  refine jT_xisub (x := 5) (y := 5) (z := 0) (pcN := 34) jI_379_33 rfl (by decide) rfl ?_
  refine jT_xicT (pcN := 3746) jI_379_34 rfl (by decide +kernel) rfl ?_
  refine jT_xiconst (k := 1) (pcN := 3747) jI_379_3746 rfl ?_
  exact jT_ret rfl (by decide) (by show 30 ≤ 30; decide) (by omega) (by omega) ⟨rfl, rfl⟩
def jzA_2127 : JC := (114, [], [35, 35, 35, 35, 35, 35, 35, 35])
def jpA_2128 : List JC := [jzA_265, jzA_266, jgh, jgh, jgh, jgh, jgh, jgh, jgh, jgh, jgh, jgh, jgh, jgh, jzA_322, (100, [], jS0), jgh, jgh, jgh, jgh, jgh, jgh, jgh, jgh, jgh, jgh, jgh, jgh, jgh, jgh, jzA_2127, jgh, jgh, jgh, jgh, (4, [(4, 36), (1, 1)], []), (101, [], [0, 0, 0, 0, 0, 0])]
def jpA_2129 : List JC := [jzA_265, jzA_606, jgh, jgh, jgh, jgh, jgh, jgh, jgh, jgh, jgh, jgh, jgh, jgh, jzA_322, (100, [], jS0), jgh, jgh, jgh, jgh, jgh, jgh, jgh, jgh, jgh, jgh, jgh, jgh, jgh, jgh, jzA_2127, jgh, jgh, jgh, jgh, (4, [(4, 36), (1, 1)], []), (101, [], [0, 0, 0, 0, 0, 0])]
set_option maxRecDepth 100000 in
theorem jL_12_3 {d : Nat} {x0 x1 x2 x3 x4 : Int} (h_x0 : (-2147483648) ≤ x0 ∧ x0 ≤ 2147483647) (h_x1 : 0 ≤ x1 ∧ x1 ≤ 3) (h_x2 : 0 ≤ x2 ∧ x2 ≤ 7) (h_x3 : 0 ≤ x3 ∧ x3 ≤ 7) (h_x4 : (-2147483648) ≤ x4 ∧ x4 ≤ 2147483647) : jT [x0, x1, x2, x3, x4] (d + 3) 379 37 1234 [(5, (0, 0)), (4, (4, 3)), (3, (4, 2)), (2, (4, 1)), (1, (4, 0)), (0, (6, 0))] [] jpA_2128 1 6 (fun k v hsN => k = 0 ∧ v = (0, 1)) := by
  refine jT_xaload_n (v := (4, 0)) (pcN := 1235) jI_379_1234 rfl rfl rfl ?_
  refine jT_xaload_n (v := (6, 0)) (pcN := 1236) jI_379_1235 rfl rfl rfl ?_
  refine jT_xiload (v := (0, 0)) (pcN := 1238) jI_379_1236 rfl rfl rfl ?_
  refine jT_xiconst (k := 1) (pcN := 1239) jI_379_1238 rfl ?_
  refine jT_xiadd (x := 0) (y := 1) (z := 1) (pcN := 1240) jI_379_1239 rfl (by decide) rfl ?_
  refine jT_adv 1 (pcN := 1241) (LN := [(5, (0, 0)), (4, (4, 3)), (3, (4, 2)), (2, (4, 1)), (1, (4, 0)), (0, (6, 0))]) (stN := [(0, x1), (4, 0)]) (hsN := jpA_2128) (c1 := 0) (s1 := 0) (c2 := 1) (s2 := 6) (by exact rfl) ?_ (by omega) (by omega)
  refine jT_xaload_n (v := (6, 0)) (pcN := 1242) jI_379_1241 rfl rfl rfl ?_
  refine jT_xiload (v := (0, 0)) (pcN := 1244) jI_379_1242 rfl rfl rfl ?_
  refine jT_xiconst (k := 2) (pcN := 1245) jI_379_1244 rfl ?_
  refine jT_xiadd (x := 0) (y := 2) (z := 2) (pcN := 1246) jI_379_1245 rfl (by decide) rfl ?_
  refine jT_adv 1 (pcN := 1247) (LN := [(5, (0, 0)), (4, (4, 3)), (3, (4, 2)), (2, (4, 1)), (1, (4, 0)), (0, (6, 0))]) (stN := [(0, x2), (0, x1), (4, 0)]) (hsN := jpA_2128) (c1 := 0) (s1 := 0) (c2 := 1) (s2 := 6) (by exact rfl) ?_ (by omega) (by omega)
  refine jT_xaload_n (v := (6, 0)) (pcN := 1248) jI_379_1247 rfl rfl rfl ?_
  refine jT_xiload (v := (0, 0)) (pcN := 1250) jI_379_1248 rfl rfl rfl ?_
  refine jT_xiconst (k := 3) (pcN := 1251) jI_379_1250 rfl ?_
  refine jT_xiadd (x := 0) (y := 3) (z := 3) (pcN := 1252) jI_379_1251 rfl (by decide) rfl ?_
  refine jT_adv 1 (pcN := 1253) (LN := [(5, (0, 0)), (4, (4, 3)), (3, (4, 2)), (2, (4, 1)), (1, (4, 0)), (0, (6, 0))]) (stN := [(0, x3), (0, x2), (0, x1), (4, 0)]) (hsN := jpA_2128) (c1 := 0) (s1 := 0) (c2 := 1) (s2 := 6) (by exact rfl) ?_ (by omega) (by omega)
  refine jT_xaload_n (v := (4, 2)) (pcN := 1254) jI_379_1253 rfl rfl rfl ?_
  refine jT_fR [0, 2, 4, 5, 6, 7, 8, 9, 10, 11, 12, 13, 14, 30, 31, 32, 33, 34, 35, 36] 37 (y := 338) (pcN := 1257) (dC := 2) (bc1 := 1) (bc2 := 6) (c1 := 0) (c2 := 0) (as := [(4, 0), (0, x1), (0, x2), (0, x3), (4, 2)]) (asC := [(4, 0), (0, x1), (0, x2), (0, x3), (4, 1)]) (LN := [(5, (0, 0)), (4, (4, 3)), (3, (4, 2)), (2, (4, 1)), (1, (4, 0)), (0, (6, 0))]) (stN := []) (hsC := jpA_1999) (v := (0, 2)) (st2 := [(0, 2)]) (jA_338_514 (d := 0) (by omega) (by omega) (by omega)) (by rfl) (by rfl) (by decide +kernel) (by rfl) (by rfl) (by omega) (by omega) (by omega) (by omega) rfl ?_
  refine jT_xistore (v := (0, 2)) (LN := [(6, (0, 2)), (5, (0, 0)), (4, (4, 3)), (3, (4, 2)), (2, (4, 1)), (1, (4, 0)), (0, (6, 0))]) (pcN := 1259) jI_379_1257 rfl rfl rfl rfl ?_
  refine jT_xaload_n (v := (4, 1)) (pcN := 1260) jI_379_1259 rfl rfl rfl ?_
  refine jT_xaload_n (v := (6, 0)) (pcN := 1261) jI_379_1260 rfl rfl rfl ?_
  refine jT_xiload (v := (0, 0)) (pcN := 1263) jI_379_1261 rfl rfl rfl ?_
  refine jT_xiconst (k := 1) (pcN := 1264) jI_379_1263 rfl ?_
  refine jT_xiadd (x := 0) (y := 1) (z := 1) (pcN := 1265) jI_379_1264 rfl (by decide) rfl ?_
  refine jT_adv 1 (pcN := 1266) (LN := [(6, (0, 2)), (5, (0, 0)), (4, (4, 3)), (3, (4, 2)), (2, (4, 1)), (1, (4, 0)), (0, (6, 0))]) (stN := [(0, x1), (4, 1)]) (hsN := jpA_2128) (c1 := 0) (s1 := 0) (c2 := 0) (s2 := 0) (by exact rfl) ?_ (by omega) (by omega)
  refine jT_xaload_n (v := (6, 0)) (pcN := 1267) jI_379_1266 rfl rfl rfl ?_
  refine jT_xiload (v := (0, 0)) (pcN := 1269) jI_379_1267 rfl rfl rfl ?_
  refine jT_xiconst (k := 2) (pcN := 1270) jI_379_1269 rfl ?_
  refine jT_xiadd (x := 0) (y := 2) (z := 2) (pcN := 1271) jI_379_1270 rfl (by decide) rfl ?_
  refine jT_adv 1 (pcN := 1272) (LN := [(6, (0, 2)), (5, (0, 0)), (4, (4, 3)), (3, (4, 2)), (2, (4, 1)), (1, (4, 0)), (0, (6, 0))]) (stN := [(0, x2), (0, x1), (4, 1)]) (hsN := jpA_2128) (c1 := 0) (s1 := 0) (c2 := 0) (s2 := 0) (by exact rfl) ?_ (by omega) (by omega)
  refine jT_xaload_n (v := (6, 0)) (pcN := 1273) jI_379_1272 rfl rfl rfl ?_
  refine jT_xiload (v := (0, 0)) (pcN := 1275) jI_379_1273 rfl rfl rfl ?_
  refine jT_xiconst (k := 3) (pcN := 1276) jI_379_1275 rfl ?_
  refine jT_xiadd (x := 0) (y := 3) (z := 3) (pcN := 1277) jI_379_1276 rfl (by decide) rfl ?_
  refine jT_adv 1 (pcN := 1278) (LN := [(6, (0, 2)), (5, (0, 0)), (4, (4, 3)), (3, (4, 2)), (2, (4, 1)), (1, (4, 0)), (0, (6, 0))]) (stN := [(0, x3), (0, x2), (0, x1), (4, 1)]) (hsN := jpA_2128) (c1 := 0) (s1 := 0) (c2 := 0) (s2 := 0) (by exact rfl) ?_ (by omega) (by omega)
  refine jT_fB [1, 15, 16, 17, 18, 19, 20, 21, 22, 23, 24, 25, 26, 27, 28, 29] 37 (y := 249) (pcN := 1281) (dC := 2) (bc1 := 0) (bc2 := 0) (c1 := 0) (c2 := 0) (as := [(4, 1), (0, x1), (0, x2), (0, x3)]) (asC := [(4, 0), (0, x1), (0, x2), (0, x3)]) (LN := [(6, (0, 2)), (5, (0, 0)), (4, (4, 3)), (3, (4, 2)), (2, (4, 1)), (1, (4, 0)), (0, (6, 0))]) (stN := []) (hsC := jpA_1519) (hsD := jpA_2089) (v := (0, 0)) (st2 := [(0, 0)]) (hs2 := jpA_2129) (jA_249_517 (d := 0) (by omega) (by omega) (by omega)) (by rfl) (by rfl) (by decide +kernel) (by rfl) (by rfl) (by omega) (by omega) (by omega) (by omega) rfl (by decide +kernel) ?_
  refine jT_xistore (v := (0, 0)) (LN := [(7, (0, 0)), (6, (0, 2)), (5, (0, 0)), (4, (4, 3)), (3, (4, 2)), (2, (4, 1)), (1, (4, 0)), (0, (6, 0))]) (pcN := 1283) jI_379_1281 rfl rfl rfl rfl ?_
  refine jT_xaload_n (v := (4, 1)) (pcN := 1284) jI_379_1283 rfl rfl rfl ?_
  refine jT_fR [1, 15, 16, 17, 18, 19, 20, 21, 22, 23, 24, 25, 26, 27, 28, 29] 37 (y := 186) (pcN := 1287) (dC := 0) (bc1 := 0) (bc2 := 0) (c1 := 0) (c2 := 0) (as := [(4, 1)]) (asC := [(4, 0)]) (LN := [(7, (0, 0)), (6, (0, 2)), (5, (0, 0)), (4, (4, 3)), (3, (4, 2)), (2, (4, 1)), (1, (4, 0)), (0, (6, 0))]) (stN := []) (hsC := jpA_361) (v := (0, 2)) (st2 := [(0, 2)]) (jA_186_101 (d := 0)) (by rfl) (by rfl) (by decide +kernel) (by rfl) (by rfl) (by omega) (by omega) (by omega) (by omega) rfl ?_
  refine jT_xiload (v := (0, 2)) (pcN := 1289) jI_379_1287 rfl rfl rfl ?_
  refine jT_xicT (pcN := 1294) jI_379_1289 rfl (by decide +kernel) rfl ?_
  refine jT_xiload (v := (0, 2)) (pcN := 1296) jI_379_1294 rfl rfl rfl ?_
  refine jT_xifT (pcN := 1311) jI_379_1296 rfl (by decide +kernel) rfl ?_
  refine jT_xgoto (pcN := 3740) jI_379_1311 rfl ?_
  refine jT_xiinc (x := 0) (z := 5) (LN := [(5, (0, 5)), (7, (0, 0)), (6, (0, 2)), (4, (4, 3)), (3, (4, 2)), (2, (4, 1)), (1, (4, 0)), (0, (6, 0))]) (pcN := 3743) jI_379_3740 rfl rfl (by decide) rfl rfl ?_
  refine jT_xgoto (pcN := 28) jI_379_3743 rfl ?_
  refine jT_xiload (v := (0, 5)) (pcN := 30) jI_379_28 rfl rfl rfl ?_
  refine jT_xaload_n (v := (6, 0)) (pcN := 31) jI_379_30 rfl rfl rfl ?_
  refine jT_adv 1 (pcN := 32) (LN := [(5, (0, 5)), (7, (0, 0)), (6, (0, 2)), (4, (4, 3)), (3, (4, 2)), (2, (4, 1)), (1, (4, 0)), (0, (6, 0))]) (stN := [(0, 5), (0, 5)]) (hsN := jpA_2129) (c1 := 0) (s1 := 0) (c2 := 0) (s2 := 0) (by exact rfl) ?_ (by omega) (by omega)
  refine jT_xiconst (k := 5) (pcN := 33) jI_379_32 rfl ?_
  refine jT_xisub (x := 5) (y := 5) (z := 0) (pcN := 34) jI_379_33 rfl (by decide) rfl ?_
  refine jT_xicT (pcN := 3746) jI_379_34 rfl (by decide +kernel) rfl ?_
  refine jT_xiconst (k := 1) (pcN := 3747) jI_379_3746 rfl ?_
  exact jT_ret rfl (by decide) (by show 37 ≤ 37; decide) (by omega) (by omega) ⟨rfl, rfl⟩
set_option maxRecDepth 100000 in
theorem jL_12_4 {d : Nat} {x0 x1 x2 x3 x4 : Int} (h_x0 : (-2147483648) ≤ x0 ∧ x0 ≤ 2147483647) (h_x1 : 0 ≤ x1 ∧ x1 ≤ 3) (h_x2 : 0 ≤ x2 ∧ x2 ≤ 7) (h_x3 : 8 ≤ x3 ∧ x3 ≤ 2147483647) (h_x4 : (-2147483648) ≤ x4 ∧ x4 ≤ 2147483647) : jT [x0, x1, x2, x3, x4] (d + 3) 379 30 1234 [(5, (0, 0)), (4, (4, 3)), (3, (4, 2)), (2, (4, 1)), (1, (4, 0)), (0, (6, 0))] [] jpA_267 1 6 (fun k v hsN => k = 0 ∧ v = (0, 1)) := by
  refine jT_xaload_n (v := (4, 0)) (pcN := 1235) jI_379_1234 rfl rfl rfl ?_
  refine jT_xaload_n (v := (6, 0)) (pcN := 1236) jI_379_1235 rfl rfl rfl ?_
  refine jT_xiload (v := (0, 0)) (pcN := 1238) jI_379_1236 rfl rfl rfl ?_
  refine jT_xiconst (k := 1) (pcN := 1239) jI_379_1238 rfl ?_
  refine jT_xiadd (x := 0) (y := 1) (z := 1) (pcN := 1240) jI_379_1239 rfl (by decide) rfl ?_
  refine jT_adv 1 (pcN := 1241) (LN := [(5, (0, 0)), (4, (4, 3)), (3, (4, 2)), (2, (4, 1)), (1, (4, 0)), (0, (6, 0))]) (stN := [(0, x1), (4, 0)]) (hsN := jpA_267) (c1 := 0) (s1 := 0) (c2 := 1) (s2 := 6) (by exact rfl) ?_ (by omega) (by omega)
  refine jT_xaload_n (v := (6, 0)) (pcN := 1242) jI_379_1241 rfl rfl rfl ?_
  refine jT_xiload (v := (0, 0)) (pcN := 1244) jI_379_1242 rfl rfl rfl ?_
  refine jT_xiconst (k := 2) (pcN := 1245) jI_379_1244 rfl ?_
  refine jT_xiadd (x := 0) (y := 2) (z := 2) (pcN := 1246) jI_379_1245 rfl (by decide) rfl ?_
  refine jT_adv 1 (pcN := 1247) (LN := [(5, (0, 0)), (4, (4, 3)), (3, (4, 2)), (2, (4, 1)), (1, (4, 0)), (0, (6, 0))]) (stN := [(0, x2), (0, x1), (4, 0)]) (hsN := jpA_267) (c1 := 0) (s1 := 0) (c2 := 1) (s2 := 6) (by exact rfl) ?_ (by omega) (by omega)
  refine jT_xaload_n (v := (6, 0)) (pcN := 1248) jI_379_1247 rfl rfl rfl ?_
  refine jT_xiload (v := (0, 0)) (pcN := 1250) jI_379_1248 rfl rfl rfl ?_
  refine jT_xiconst (k := 3) (pcN := 1251) jI_379_1250 rfl ?_
  refine jT_xiadd (x := 0) (y := 3) (z := 3) (pcN := 1252) jI_379_1251 rfl (by decide) rfl ?_
  refine jT_adv 1 (pcN := 1253) (LN := [(5, (0, 0)), (4, (4, 3)), (3, (4, 2)), (2, (4, 1)), (1, (4, 0)), (0, (6, 0))]) (stN := [(0, x3), (0, x2), (0, x1), (4, 0)]) (hsN := jpA_267) (c1 := 0) (s1 := 0) (c2 := 1) (s2 := 6) (by exact rfl) ?_ (by omega) (by omega)
  refine jT_xaload_n (v := (4, 2)) (pcN := 1254) jI_379_1253 rfl rfl rfl ?_
  refine jT_fR [0, 2, 4, 5, 6, 7, 8, 9, 10, 11, 12, 13, 14] 30 (y := 338) (pcN := 1257) (dC := 2) (bc1 := 1) (bc2 := 6) (c1 := 0) (c2 := 0) (as := [(4, 0), (0, x1), (0, x2), (0, x3), (4, 2)]) (asC := [(4, 0), (0, x1), (0, x2), (0, x3), (4, 1)]) (LN := [(5, (0, 0)), (4, (4, 3)), (3, (4, 2)), (2, (4, 1)), (1, (4, 0)), (0, (6, 0))]) (stN := []) (hsC := jpA_15) (v := (0, 1)) (st2 := [(0, 1)]) (jA_338_519 (d := 0) (by omega) (by omega) (by omega)) (by rfl) (by rfl) (by decide +kernel) (by rfl) (by rfl) (by omega) (by omega) (by omega) (by omega) rfl ?_
  refine jT_xistore (v := (0, 1)) (LN := [(6, (0, 1)), (5, (0, 0)), (4, (4, 3)), (3, (4, 2)), (2, (4, 1)), (1, (4, 0)), (0, (6, 0))]) (pcN := 1259) jI_379_1257 rfl rfl rfl rfl ?_
  refine jT_xaload_n (v := (4, 1)) (pcN := 1260) jI_379_1259 rfl rfl rfl ?_
  refine jT_xaload_n (v := (6, 0)) (pcN := 1261) jI_379_1260 rfl rfl rfl ?_
  refine jT_xiload (v := (0, 0)) (pcN := 1263) jI_379_1261 rfl rfl rfl ?_
  refine jT_xiconst (k := 1) (pcN := 1264) jI_379_1263 rfl ?_
  refine jT_xiadd (x := 0) (y := 1) (z := 1) (pcN := 1265) jI_379_1264 rfl (by decide) rfl ?_
  refine jT_adv 1 (pcN := 1266) (LN := [(6, (0, 1)), (5, (0, 0)), (4, (4, 3)), (3, (4, 2)), (2, (4, 1)), (1, (4, 0)), (0, (6, 0))]) (stN := [(0, x1), (4, 1)]) (hsN := jpA_267) (c1 := 0) (s1 := 0) (c2 := 0) (s2 := 0) (by exact rfl) ?_ (by omega) (by omega)
  refine jT_xaload_n (v := (6, 0)) (pcN := 1267) jI_379_1266 rfl rfl rfl ?_
  refine jT_xiload (v := (0, 0)) (pcN := 1269) jI_379_1267 rfl rfl rfl ?_
  refine jT_xiconst (k := 2) (pcN := 1270) jI_379_1269 rfl ?_
  refine jT_xiadd (x := 0) (y := 2) (z := 2) (pcN := 1271) jI_379_1270 rfl (by decide) rfl ?_
  refine jT_adv 1 (pcN := 1272) (LN := [(6, (0, 1)), (5, (0, 0)), (4, (4, 3)), (3, (4, 2)), (2, (4, 1)), (1, (4, 0)), (0, (6, 0))]) (stN := [(0, x2), (0, x1), (4, 1)]) (hsN := jpA_267) (c1 := 0) (s1 := 0) (c2 := 0) (s2 := 0) (by exact rfl) ?_ (by omega) (by omega)
  refine jT_xaload_n (v := (6, 0)) (pcN := 1273) jI_379_1272 rfl rfl rfl ?_
  refine jT_xiload (v := (0, 0)) (pcN := 1275) jI_379_1273 rfl rfl rfl ?_
  refine jT_xiconst (k := 3) (pcN := 1276) jI_379_1275 rfl ?_
  refine jT_xiadd (x := 0) (y := 3) (z := 3) (pcN := 1277) jI_379_1276 rfl (by decide) rfl ?_
  refine jT_adv 1 (pcN := 1278) (LN := [(6, (0, 1)), (5, (0, 0)), (4, (4, 3)), (3, (4, 2)), (2, (4, 1)), (1, (4, 0)), (0, (6, 0))]) (stN := [(0, x3), (0, x2), (0, x1), (4, 1)]) (hsN := jpA_267) (c1 := 0) (s1 := 0) (c2 := 0) (s2 := 0) (by exact rfl) ?_ (by omega) (by omega)
  refine jT_fB [1, 15, 16, 17, 18, 19, 20, 21, 22, 23, 24, 25, 26, 27, 28, 29] 30 (y := 249) (pcN := 1281) (dC := 2) (bc1 := 0) (bc2 := 0) (c1 := 0) (c2 := 0) (as := [(4, 1), (0, x1), (0, x2), (0, x3)]) (asC := [(4, 0), (0, x1), (0, x2), (0, x3)]) (LN := [(6, (0, 1)), (5, (0, 0)), (4, (4, 3)), (3, (4, 2)), (2, (4, 1)), (1, (4, 0)), (0, (6, 0))]) (stN := []) (hsC := jpA_22) (hsD := jpA_20) (v := (0, 0)) (st2 := [(0, 0)]) (hs2 := jpA_306) (jA_249_520 (d := 0) (by omega) (by omega) (by omega)) (by rfl) (by rfl) (by decide +kernel) (by rfl) (by rfl) (by omega) (by omega) (by omega) (by omega) rfl (by decide +kernel) ?_
  refine jT_xistore (v := (0, 0)) (LN := [(7, (0, 0)), (6, (0, 1)), (5, (0, 0)), (4, (4, 3)), (3, (4, 2)), (2, (4, 1)), (1, (4, 0)), (0, (6, 0))]) (pcN := 1283) jI_379_1281 rfl rfl rfl rfl ?_
  refine jT_xaload_n (v := (4, 1)) (pcN := 1284) jI_379_1283 rfl rfl rfl ?_
  refine jT_fR [1, 15, 16, 17, 18, 19, 20, 21, 22, 23, 24, 25, 26, 27, 28, 29] 30 (y := 186) (pcN := 1287) (dC := 0) (bc1 := 0) (bc2 := 0) (c1 := 0) (c2 := 0) (as := [(4, 1)]) (asC := [(4, 0)]) (LN := [(7, (0, 0)), (6, (0, 1)), (5, (0, 0)), (4, (4, 3)), (3, (4, 2)), (2, (4, 1)), (1, (4, 0)), (0, (6, 0))]) (stN := []) (hsC := jpA_20) (v := (0, 1)) (st2 := [(0, 1)]) (jA_186_8 (d := 0)) (by rfl) (by rfl) (by decide +kernel) (by rfl) (by rfl) (by omega) (by omega) (by omega) (by omega) rfl ?_
  refine jT_xiload (v := (0, 1)) (pcN := 1289) jI_379_1287 rfl rfl rfl ?_
  refine jT_xicT (pcN := 1294) jI_379_1289 rfl (by decide +kernel) rfl ?_
  refine jT_xiload (v := (0, 1)) (pcN := 1296) jI_379_1294 rfl rfl rfl ?_
  refine jT_xifT (pcN := 1311) jI_379_1296 rfl (by decide +kernel) rfl ?_
  refine jT_xgoto (pcN := 3740) jI_379_1311 rfl ?_
  refine jT_xiinc (x := 0) (z := 5) (LN := [(5, (0, 5)), (7, (0, 0)), (6, (0, 1)), (4, (4, 3)), (3, (4, 2)), (2, (4, 1)), (1, (4, 0)), (0, (6, 0))]) (pcN := 3743) jI_379_3740 rfl rfl (by decide) rfl rfl ?_
  refine jT_xgoto (pcN := 28) jI_379_3743 rfl ?_
  refine jT_xiload (v := (0, 5)) (pcN := 30) jI_379_28 rfl rfl rfl ?_
  refine jT_xaload_n (v := (6, 0)) (pcN := 31) jI_379_30 rfl rfl rfl ?_
  refine jT_adv 1 (pcN := 32) (LN := [(5, (0, 5)), (7, (0, 0)), (6, (0, 1)), (4, (4, 3)), (3, (4, 2)), (2, (4, 1)), (1, (4, 0)), (0, (6, 0))]) (stN := [(0, 5), (0, 5)]) (hsN := jpA_306) (c1 := 0) (s1 := 0) (c2 := 0) (s2 := 0) (by exact rfl) ?_ (by omega) (by omega)
  refine jT_xiconst (k := 5) (pcN := 33) jI_379_32 rfl ?_
  refine jT_xisub (x := 5) (y := 5) (z := 0) (pcN := 34) jI_379_33 rfl (by decide) rfl ?_
  refine jT_xicT (pcN := 3746) jI_379_34 rfl (by decide +kernel) rfl ?_
  refine jT_xiconst (k := 1) (pcN := 3747) jI_379_3746 rfl ?_
  exact jT_ret rfl (by decide) (by show 30 ≤ 30; decide) (by omega) (by omega) ⟨rfl, rfl⟩
set_option maxRecDepth 100000 in
theorem jL_12_5 {d : Nat} {x0 x1 x2 x3 x4 : Int} (h_x0 : (-2147483648) ≤ x0 ∧ x0 ≤ 2147483647) (h_x1 : 0 ≤ x1 ∧ x1 ≤ 3) (h_x2 : 8 ≤ x2 ∧ x2 ≤ 2147483647) (h_x3 : (-2147483648) ≤ x3 ∧ x3 ≤ 2147483647) (h_x4 : (-2147483648) ≤ x4 ∧ x4 ≤ 2147483647) : jT [x0, x1, x2, x3, x4] (d + 3) 379 30 1234 [(5, (0, 0)), (4, (4, 3)), (3, (4, 2)), (2, (4, 1)), (1, (4, 0)), (0, (6, 0))] [] jpA_267 1 6 (fun k v hsN => k = 0 ∧ v = (0, 1)) := by
  refine jT_xaload_n (v := (4, 0)) (pcN := 1235) jI_379_1234 rfl rfl rfl ?_
  refine jT_xaload_n (v := (6, 0)) (pcN := 1236) jI_379_1235 rfl rfl rfl ?_
  refine jT_xiload (v := (0, 0)) (pcN := 1238) jI_379_1236 rfl rfl rfl ?_
  refine jT_xiconst (k := 1) (pcN := 1239) jI_379_1238 rfl ?_
  refine jT_xiadd (x := 0) (y := 1) (z := 1) (pcN := 1240) jI_379_1239 rfl (by decide) rfl ?_
  refine jT_adv 1 (pcN := 1241) (LN := [(5, (0, 0)), (4, (4, 3)), (3, (4, 2)), (2, (4, 1)), (1, (4, 0)), (0, (6, 0))]) (stN := [(0, x1), (4, 0)]) (hsN := jpA_267) (c1 := 0) (s1 := 0) (c2 := 1) (s2 := 6) (by exact rfl) ?_ (by omega) (by omega)
  refine jT_xaload_n (v := (6, 0)) (pcN := 1242) jI_379_1241 rfl rfl rfl ?_
  refine jT_xiload (v := (0, 0)) (pcN := 1244) jI_379_1242 rfl rfl rfl ?_
  refine jT_xiconst (k := 2) (pcN := 1245) jI_379_1244 rfl ?_
  refine jT_xiadd (x := 0) (y := 2) (z := 2) (pcN := 1246) jI_379_1245 rfl (by decide) rfl ?_
  refine jT_adv 1 (pcN := 1247) (LN := [(5, (0, 0)), (4, (4, 3)), (3, (4, 2)), (2, (4, 1)), (1, (4, 0)), (0, (6, 0))]) (stN := [(0, x2), (0, x1), (4, 0)]) (hsN := jpA_267) (c1 := 0) (s1 := 0) (c2 := 1) (s2 := 6) (by exact rfl) ?_ (by omega) (by omega)
  refine jT_xaload_n (v := (6, 0)) (pcN := 1248) jI_379_1247 rfl rfl rfl ?_
  refine jT_xiload (v := (0, 0)) (pcN := 1250) jI_379_1248 rfl rfl rfl ?_
  refine jT_xiconst (k := 3) (pcN := 1251) jI_379_1250 rfl ?_
  refine jT_xiadd (x := 0) (y := 3) (z := 3) (pcN := 1252) jI_379_1251 rfl (by decide) rfl ?_
  refine jT_adv 1 (pcN := 1253) (LN := [(5, (0, 0)), (4, (4, 3)), (3, (4, 2)), (2, (4, 1)), (1, (4, 0)), (0, (6, 0))]) (stN := [(0, x3), (0, x2), (0, x1), (4, 0)]) (hsN := jpA_267) (c1 := 0) (s1 := 0) (c2 := 1) (s2 := 6) (by exact rfl) ?_ (by omega) (by omega)
  refine jT_xaload_n (v := (4, 2)) (pcN := 1254) jI_379_1253 rfl rfl rfl ?_
  refine jT_fR [0, 2, 4, 5, 6, 7, 8, 9, 10, 11, 12, 13, 14] 30 (y := 338) (pcN := 1257) (dC := 2) (bc1 := 1) (bc2 := 6) (c1 := 0) (c2 := 0) (as := [(4, 0), (0, x1), (0, x2), (0, x3), (4, 2)]) (asC := [(4, 0), (0, x1), (0, x2), (0, x3), (4, 1)]) (LN := [(5, (0, 0)), (4, (4, 3)), (3, (4, 2)), (2, (4, 1)), (1, (4, 0)), (0, (6, 0))]) (stN := []) (hsC := jpA_15) (v := (0, 1)) (st2 := [(0, 1)]) (jA_338_522 (d := 0) (by omega) (by omega) (by omega)) (by rfl) (by rfl) (by decide +kernel) (by rfl) (by rfl) (by omega) (by omega) (by omega) (by omega) rfl ?_
  refine jT_xistore (v := (0, 1)) (LN := [(6, (0, 1)), (5, (0, 0)), (4, (4, 3)), (3, (4, 2)), (2, (4, 1)), (1, (4, 0)), (0, (6, 0))]) (pcN := 1259) jI_379_1257 rfl rfl rfl rfl ?_
  refine jT_xaload_n (v := (4, 1)) (pcN := 1260) jI_379_1259 rfl rfl rfl ?_
  refine jT_xaload_n (v := (6, 0)) (pcN := 1261) jI_379_1260 rfl rfl rfl ?_
  refine jT_xiload (v := (0, 0)) (pcN := 1263) jI_379_1261 rfl rfl rfl ?_
  refine jT_xiconst (k := 1) (pcN := 1264) jI_379_1263 rfl ?_
  refine jT_xiadd (x := 0) (y := 1) (z := 1) (pcN := 1265) jI_379_1264 rfl (by decide) rfl ?_
  refine jT_adv 1 (pcN := 1266) (LN := [(6, (0, 1)), (5, (0, 0)), (4, (4, 3)), (3, (4, 2)), (2, (4, 1)), (1, (4, 0)), (0, (6, 0))]) (stN := [(0, x1), (4, 1)]) (hsN := jpA_267) (c1 := 0) (s1 := 0) (c2 := 0) (s2 := 0) (by exact rfl) ?_ (by omega) (by omega)
  refine jT_xaload_n (v := (6, 0)) (pcN := 1267) jI_379_1266 rfl rfl rfl ?_
  refine jT_xiload (v := (0, 0)) (pcN := 1269) jI_379_1267 rfl rfl rfl ?_
  refine jT_xiconst (k := 2) (pcN := 1270) jI_379_1269 rfl ?_
  refine jT_xiadd (x := 0) (y := 2) (z := 2) (pcN := 1271) jI_379_1270 rfl (by decide) rfl ?_
  refine jT_adv 1 (pcN := 1272) (LN := [(6, (0, 1)), (5, (0, 0)), (4, (4, 3)), (3, (4, 2)), (2, (4, 1)), (1, (4, 0)), (0, (6, 0))]) (stN := [(0, x2), (0, x1), (4, 1)]) (hsN := jpA_267) (c1 := 0) (s1 := 0) (c2 := 0) (s2 := 0) (by exact rfl) ?_ (by omega) (by omega)
  refine jT_xaload_n (v := (6, 0)) (pcN := 1273) jI_379_1272 rfl rfl rfl ?_
  refine jT_xiload (v := (0, 0)) (pcN := 1275) jI_379_1273 rfl rfl rfl ?_
  refine jT_xiconst (k := 3) (pcN := 1276) jI_379_1275 rfl ?_
  refine jT_xiadd (x := 0) (y := 3) (z := 3) (pcN := 1277) jI_379_1276 rfl (by decide) rfl ?_
  refine jT_adv 1 (pcN := 1278) (LN := [(6, (0, 1)), (5, (0, 0)), (4, (4, 3)), (3, (4, 2)), (2, (4, 1)), (1, (4, 0)), (0, (6, 0))]) (stN := [(0, x3), (0, x2), (0, x1), (4, 1)]) (hsN := jpA_267) (c1 := 0) (s1 := 0) (c2 := 0) (s2 := 0) (by exact rfl) ?_ (by omega) (by omega)
  refine jT_fB [1, 15, 16, 17, 18, 19, 20, 21, 22, 23, 24, 25, 26, 27, 28, 29] 30 (y := 249) (pcN := 1281) (dC := 2) (bc1 := 0) (bc2 := 0) (c1 := 0) (c2 := 0) (as := [(4, 1), (0, x1), (0, x2), (0, x3)]) (asC := [(4, 0), (0, x1), (0, x2), (0, x3)]) (LN := [(6, (0, 1)), (5, (0, 0)), (4, (4, 3)), (3, (4, 2)), (2, (4, 1)), (1, (4, 0)), (0, (6, 0))]) (stN := []) (hsC := jpA_22) (hsD := jpA_20) (v := (0, 0)) (st2 := [(0, 0)]) (hs2 := jpA_306) (jA_249_523 (d := 0) (by omega) (by omega) (by omega)) (by rfl) (by rfl) (by decide +kernel) (by rfl) (by rfl) (by omega) (by omega) (by omega) (by omega) rfl (by decide +kernel) ?_
  refine jT_xistore (v := (0, 0)) (LN := [(7, (0, 0)), (6, (0, 1)), (5, (0, 0)), (4, (4, 3)), (3, (4, 2)), (2, (4, 1)), (1, (4, 0)), (0, (6, 0))]) (pcN := 1283) jI_379_1281 rfl rfl rfl rfl ?_
  refine jT_xaload_n (v := (4, 1)) (pcN := 1284) jI_379_1283 rfl rfl rfl ?_
  refine jT_fR [1, 15, 16, 17, 18, 19, 20, 21, 22, 23, 24, 25, 26, 27, 28, 29] 30 (y := 186) (pcN := 1287) (dC := 0) (bc1 := 0) (bc2 := 0) (c1 := 0) (c2 := 0) (as := [(4, 1)]) (asC := [(4, 0)]) (LN := [(7, (0, 0)), (6, (0, 1)), (5, (0, 0)), (4, (4, 3)), (3, (4, 2)), (2, (4, 1)), (1, (4, 0)), (0, (6, 0))]) (stN := []) (hsC := jpA_20) (v := (0, 1)) (st2 := [(0, 1)]) (jA_186_8 (d := 0)) (by rfl) (by rfl) (by decide +kernel) (by rfl) (by rfl) (by omega) (by omega) (by omega) (by omega) rfl ?_
  refine jT_xiload (v := (0, 1)) (pcN := 1289) jI_379_1287 rfl rfl rfl ?_
  refine jT_xicT (pcN := 1294) jI_379_1289 rfl (by decide +kernel) rfl ?_
  refine jT_xiload (v := (0, 1)) (pcN := 1296) jI_379_1294 rfl rfl rfl ?_
  refine jT_xifT (pcN := 1311) jI_379_1296 rfl (by decide +kernel) rfl ?_
  refine jT_xgoto (pcN := 3740) jI_379_1311 rfl ?_
  refine jT_xiinc (x := 0) (z := 5) (LN := [(5, (0, 5)), (7, (0, 0)), (6, (0, 1)), (4, (4, 3)), (3, (4, 2)), (2, (4, 1)), (1, (4, 0)), (0, (6, 0))]) (pcN := 3743) jI_379_3740 rfl rfl (by decide) rfl rfl ?_
  refine jT_xgoto (pcN := 28) jI_379_3743 rfl ?_
  refine jT_xiload (v := (0, 5)) (pcN := 30) jI_379_28 rfl rfl rfl ?_
  refine jT_xaload_n (v := (6, 0)) (pcN := 31) jI_379_30 rfl rfl rfl ?_
  refine jT_adv 1 (pcN := 32) (LN := [(5, (0, 5)), (7, (0, 0)), (6, (0, 1)), (4, (4, 3)), (3, (4, 2)), (2, (4, 1)), (1, (4, 0)), (0, (6, 0))]) (stN := [(0, 5), (0, 5)]) (hsN := jpA_306) (c1 := 0) (s1 := 0) (c2 := 0) (s2 := 0) (by exact rfl) ?_ (by omega) (by omega)
  refine jT_xiconst (k := 5) (pcN := 33) jI_379_32 rfl ?_
  refine jT_xisub (x := 5) (y := 5) (z := 0) (pcN := 34) jI_379_33 rfl (by decide) rfl ?_
  refine jT_xicT (pcN := 3746) jI_379_34 rfl (by decide +kernel) rfl ?_
  refine jT_xiconst (k := 1) (pcN := 3747) jI_379_3746 rfl ?_
  exact jT_ret rfl (by decide) (by show 30 ≤ 30; decide) (by omega) (by omega) ⟨rfl, rfl⟩
set_option maxRecDepth 100000 in
theorem jL_12_6 {d : Nat} {x0 x1 x2 x3 x4 : Int} (h_x0 : (-2147483648) ≤ x0 ∧ x0 ≤ 2147483647) (h_x1 : 4 ≤ x1 ∧ x1 ≤ 2147483647) (h_x2 : (-2147483648) ≤ x2 ∧ x2 ≤ 2147483647) (h_x3 : (-2147483648) ≤ x3 ∧ x3 ≤ 2147483647) (h_x4 : (-2147483648) ≤ x4 ∧ x4 ≤ 2147483647) : jT [x0, x1, x2, x3, x4] (d + 3) 379 30 1234 [(5, (0, 0)), (4, (4, 3)), (3, (4, 2)), (2, (4, 1)), (1, (4, 0)), (0, (6, 0))] [] jpA_267 1 6 (fun k v hsN => k = 0 ∧ v = (0, 1)) := by
  refine jT_xaload_n (v := (4, 0)) (pcN := 1235) jI_379_1234 rfl rfl rfl ?_
  refine jT_xaload_n (v := (6, 0)) (pcN := 1236) jI_379_1235 rfl rfl rfl ?_
  refine jT_xiload (v := (0, 0)) (pcN := 1238) jI_379_1236 rfl rfl rfl ?_
  refine jT_xiconst (k := 1) (pcN := 1239) jI_379_1238 rfl ?_
  refine jT_xiadd (x := 0) (y := 1) (z := 1) (pcN := 1240) jI_379_1239 rfl (by decide) rfl ?_
  refine jT_adv 1 (pcN := 1241) (LN := [(5, (0, 0)), (4, (4, 3)), (3, (4, 2)), (2, (4, 1)), (1, (4, 0)), (0, (6, 0))]) (stN := [(0, x1), (4, 0)]) (hsN := jpA_267) (c1 := 0) (s1 := 0) (c2 := 1) (s2 := 6) (by exact rfl) ?_ (by omega) (by omega)
  refine jT_xaload_n (v := (6, 0)) (pcN := 1242) jI_379_1241 rfl rfl rfl ?_
  refine jT_xiload (v := (0, 0)) (pcN := 1244) jI_379_1242 rfl rfl rfl ?_
  refine jT_xiconst (k := 2) (pcN := 1245) jI_379_1244 rfl ?_
  refine jT_xiadd (x := 0) (y := 2) (z := 2) (pcN := 1246) jI_379_1245 rfl (by decide) rfl ?_
  refine jT_adv 1 (pcN := 1247) (LN := [(5, (0, 0)), (4, (4, 3)), (3, (4, 2)), (2, (4, 1)), (1, (4, 0)), (0, (6, 0))]) (stN := [(0, x2), (0, x1), (4, 0)]) (hsN := jpA_267) (c1 := 0) (s1 := 0) (c2 := 1) (s2 := 6) (by exact rfl) ?_ (by omega) (by omega)
  refine jT_xaload_n (v := (6, 0)) (pcN := 1248) jI_379_1247 rfl rfl rfl ?_
  refine jT_xiload (v := (0, 0)) (pcN := 1250) jI_379_1248 rfl rfl rfl ?_
  refine jT_xiconst (k := 3) (pcN := 1251) jI_379_1250 rfl ?_
  refine jT_xiadd (x := 0) (y := 3) (z := 3) (pcN := 1252) jI_379_1251 rfl (by decide) rfl ?_
  refine jT_adv 1 (pcN := 1253) (LN := [(5, (0, 0)), (4, (4, 3)), (3, (4, 2)), (2, (4, 1)), (1, (4, 0)), (0, (6, 0))]) (stN := [(0, x3), (0, x2), (0, x1), (4, 0)]) (hsN := jpA_267) (c1 := 0) (s1 := 0) (c2 := 1) (s2 := 6) (by exact rfl) ?_ (by omega) (by omega)
  refine jT_xaload_n (v := (4, 2)) (pcN := 1254) jI_379_1253 rfl rfl rfl ?_
  refine jT_fR [0, 2, 4, 5, 6, 7, 8, 9, 10, 11, 12, 13, 14] 30 (y := 338) (pcN := 1257) (dC := 2) (bc1 := 1) (bc2 := 6) (c1 := 0) (c2 := 0) (as := [(4, 0), (0, x1), (0, x2), (0, x3), (4, 2)]) (asC := [(4, 0), (0, x1), (0, x2), (0, x3), (4, 1)]) (LN := [(5, (0, 0)), (4, (4, 3)), (3, (4, 2)), (2, (4, 1)), (1, (4, 0)), (0, (6, 0))]) (stN := []) (hsC := jpA_15) (v := (0, 1)) (st2 := [(0, 1)]) (jA_338_525 (d := 0) (by omega) (by omega) (by omega)) (by rfl) (by rfl) (by decide +kernel) (by rfl) (by rfl) (by omega) (by omega) (by omega) (by omega) rfl ?_
  refine jT_xistore (v := (0, 1)) (LN := [(6, (0, 1)), (5, (0, 0)), (4, (4, 3)), (3, (4, 2)), (2, (4, 1)), (1, (4, 0)), (0, (6, 0))]) (pcN := 1259) jI_379_1257 rfl rfl rfl rfl ?_
  refine jT_xaload_n (v := (4, 1)) (pcN := 1260) jI_379_1259 rfl rfl rfl ?_
  refine jT_xaload_n (v := (6, 0)) (pcN := 1261) jI_379_1260 rfl rfl rfl ?_
  refine jT_xiload (v := (0, 0)) (pcN := 1263) jI_379_1261 rfl rfl rfl ?_
  refine jT_xiconst (k := 1) (pcN := 1264) jI_379_1263 rfl ?_
  refine jT_xiadd (x := 0) (y := 1) (z := 1) (pcN := 1265) jI_379_1264 rfl (by decide) rfl ?_
  refine jT_adv 1 (pcN := 1266) (LN := [(6, (0, 1)), (5, (0, 0)), (4, (4, 3)), (3, (4, 2)), (2, (4, 1)), (1, (4, 0)), (0, (6, 0))]) (stN := [(0, x1), (4, 1)]) (hsN := jpA_267) (c1 := 0) (s1 := 0) (c2 := 0) (s2 := 0) (by exact rfl) ?_ (by omega) (by omega)
  refine jT_xaload_n (v := (6, 0)) (pcN := 1267) jI_379_1266 rfl rfl rfl ?_
  refine jT_xiload (v := (0, 0)) (pcN := 1269) jI_379_1267 rfl rfl rfl ?_
  refine jT_xiconst (k := 2) (pcN := 1270) jI_379_1269 rfl ?_
  refine jT_xiadd (x := 0) (y := 2) (z := 2) (pcN := 1271) jI_379_1270 rfl (by decide) rfl ?_
  refine jT_adv 1 (pcN := 1272) (LN := [(6, (0, 1)), (5, (0, 0)), (4, (4, 3)), (3, (4, 2)), (2, (4, 1)), (1, (4, 0)), (0, (6, 0))]) (stN := [(0, x2), (0, x1), (4, 1)]) (hsN := jpA_267) (c1 := 0) (s1 := 0) (c2 := 0) (s2 := 0) (by exact rfl) ?_ (by omega) (by omega)
  refine jT_xaload_n (v := (6, 0)) (pcN := 1273) jI_379_1272 rfl rfl rfl ?_
  refine jT_xiload (v := (0, 0)) (pcN := 1275) jI_379_1273 rfl rfl rfl ?_
  refine jT_xiconst (k := 3) (pcN := 1276) jI_379_1275 rfl ?_
  refine jT_xiadd (x := 0) (y := 3) (z := 3) (pcN := 1277) jI_379_1276 rfl (by decide) rfl ?_
  refine jT_adv 1 (pcN := 1278) (LN := [(6, (0, 1)), (5, (0, 0)), (4, (4, 3)), (3, (4, 2)), (2, (4, 1)), (1, (4, 0)), (0, (6, 0))]) (stN := [(0, x3), (0, x2), (0, x1), (4, 1)]) (hsN := jpA_267) (c1 := 0) (s1 := 0) (c2 := 0) (s2 := 0) (by exact rfl) ?_ (by omega) (by omega)
  refine jT_fB [1, 15, 16, 17, 18, 19, 20, 21, 22, 23, 24, 25, 26, 27, 28, 29] 30 (y := 249) (pcN := 1281) (dC := 2) (bc1 := 0) (bc2 := 0) (c1 := 0) (c2 := 0) (as := [(4, 1), (0, x1), (0, x2), (0, x3)]) (asC := [(4, 0), (0, x1), (0, x2), (0, x3)]) (LN := [(6, (0, 1)), (5, (0, 0)), (4, (4, 3)), (3, (4, 2)), (2, (4, 1)), (1, (4, 0)), (0, (6, 0))]) (stN := []) (hsC := jpA_22) (hsD := jpA_20) (v := (0, 0)) (st2 := [(0, 0)]) (hs2 := jpA_306) (jA_249_526 (d := 0) (by omega) (by omega) (by omega)) (by rfl) (by rfl) (by decide +kernel) (by rfl) (by rfl) (by omega) (by omega) (by omega) (by omega) rfl (by decide +kernel) ?_
  refine jT_xistore (v := (0, 0)) (LN := [(7, (0, 0)), (6, (0, 1)), (5, (0, 0)), (4, (4, 3)), (3, (4, 2)), (2, (4, 1)), (1, (4, 0)), (0, (6, 0))]) (pcN := 1283) jI_379_1281 rfl rfl rfl rfl ?_
  refine jT_xaload_n (v := (4, 1)) (pcN := 1284) jI_379_1283 rfl rfl rfl ?_
  refine jT_fR [1, 15, 16, 17, 18, 19, 20, 21, 22, 23, 24, 25, 26, 27, 28, 29] 30 (y := 186) (pcN := 1287) (dC := 0) (bc1 := 0) (bc2 := 0) (c1 := 0) (c2 := 0) (as := [(4, 1)]) (asC := [(4, 0)]) (LN := [(7, (0, 0)), (6, (0, 1)), (5, (0, 0)), (4, (4, 3)), (3, (4, 2)), (2, (4, 1)), (1, (4, 0)), (0, (6, 0))]) (stN := []) (hsC := jpA_20) (v := (0, 1)) (st2 := [(0, 1)]) (jA_186_8 (d := 0)) (by rfl) (by rfl) (by decide +kernel) (by rfl) (by rfl) (by omega) (by omega) (by omega) (by omega) rfl ?_
  refine jT_xiload (v := (0, 1)) (pcN := 1289) jI_379_1287 rfl rfl rfl ?_
  refine jT_xicT (pcN := 1294) jI_379_1289 rfl (by decide +kernel) rfl ?_
  refine jT_xiload (v := (0, 1)) (pcN := 1296) jI_379_1294 rfl rfl rfl ?_
  refine jT_xifT (pcN := 1311) jI_379_1296 rfl (by decide +kernel) rfl ?_
  refine jT_xgoto (pcN := 3740) jI_379_1311 rfl ?_
  refine jT_xiinc (x := 0) (z := 5) (LN := [(5, (0, 5)), (7, (0, 0)), (6, (0, 1)), (4, (4, 3)), (3, (4, 2)), (2, (4, 1)), (1, (4, 0)), (0, (6, 0))]) (pcN := 3743) jI_379_3740 rfl rfl (by decide) rfl rfl ?_
  refine jT_xgoto (pcN := 28) jI_379_3743 rfl ?_
  refine jT_xiload (v := (0, 5)) (pcN := 30) jI_379_28 rfl rfl rfl ?_
  refine jT_xaload_n (v := (6, 0)) (pcN := 31) jI_379_30 rfl rfl rfl ?_
  refine jT_adv 1 (pcN := 32) (LN := [(5, (0, 5)), (7, (0, 0)), (6, (0, 1)), (4, (4, 3)), (3, (4, 2)), (2, (4, 1)), (1, (4, 0)), (0, (6, 0))]) (stN := [(0, 5), (0, 5)]) (hsN := jpA_306) (c1 := 0) (s1 := 0) (c2 := 0) (s2 := 0) (by exact rfl) ?_ (by omega) (by omega)
  refine jT_xiconst (k := 5) (pcN := 33) jI_379_32 rfl ?_
  refine jT_xisub (x := 5) (y := 5) (z := 0) (pcN := 34) jI_379_33 rfl (by decide) rfl ?_
  refine jT_xicT (pcN := 3746) jI_379_34 rfl (by decide +kernel) rfl ?_
  refine jT_xiconst (k := 1) (pcN := 3747) jI_379_3746 rfl ?_
  exact jT_ret rfl (by decide) (by show 30 ≤ 30; decide) (by omega) (by omega) ⟨rfl, rfl⟩
