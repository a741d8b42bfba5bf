/-! the law, case by case: 30 -/
theorem jI_149_0 : jmI (jm 149) 0 = (.aload_n 0, 1) := by rfl
theorem jI_149_1 : jmI (jm 149) 1 = (.iload_n 1, 1) := by rfl
theorem jI_149_2 : jmI (jm 149) 2 = (.iconst 4, 1) := by rfl
theorem jA_149_887 {xs : List Int} {d : Nat} {x1 x2 : Int} (h_x1 : (-2147483648) ≤ x1 ∧ x1 ≤ (-1)) (h_x2 : (-2147483648) ≤ x2 ∧ x2 ≤ 2147483647) : jT xs (d + 1) 149 12 0 [(0, (4, 0)), (1, (0, x1)), (2, (0, x2)), (3, (0, 1))] [] jpA_6 1 6 (fun k v hsN => k = 1 ∧ v = (0, 0) ∧ hsN = jpA_6 ++ []) := by
  refine jT_xaload_n (v := (4, 0)) (pcN := 1) jI_149_0 rfl rfl rfl ?_
  refine jT_xiload_n (v := (0, x1)) (pcN := 2) jI_149_1 rfl rfl rfl ?_
  refine jT_xiconst (k := 4) (pcN := 3) jI_149_2 rfl ?_
  exact jT_fX [0] 12 (y := 115) (pcN := 6) (dC := 0) (bc1 := 1) (bc2 := 6) (as := [(4, 0), (0, x1), (0, 4)]) (asC := [(4, 0), (0, x1), (0, 4)]) (LN := [(0, (4, 0)), (1, (0, x1)), (2, (0, x2)), (3, (0, 1))]) (stN := []) (hsC := [jgh]) (e := 0) (jA_115_310 (d := 0) (by omega)) (by rfl) (by rfl) (by decide +kernel) (by rfl) (by rfl) (by omega) (by omega) (by omega) (by omega) ⟨rfl, ⟨rfl, rfl, rfl⟩⟩
theorem jI_354_0 : jmI (jm 354) 0 = (.aload 4, 2) := by rfl
theorem jI_354_2 : jmI (jm 354) 2 = (.iconst 0, 1) := by rfl
theorem jI_354_3 : jmI (jm 354) 3 = (.aload_n 0, 1) := by rfl
theorem jI_354_4 : jmI (jm 354) 4 = (.iload_n 1, 1) := by rfl
theorem jI_354_5 : jmI (jm 354) 5 = (.iload_n 2, 1) := by rfl
theorem jI_354_6 : jmI (jm 354) 6 = (.iload_n 3, 1) := by rfl
theorem jA_354_888 {xs : List Int} {d : Nat} {x1 x2 : Int} (h_x1 : (-2147483648) ≤ x1 ∧ x1 ≤ (-1)) (h_x2 : (-2147483648) ≤ x2 ∧ x2 ≤ 2147483647) : jT xs (d + 2) 354 13 0 [(0, (4, 0)), (1, (0, x1)), (2, (0, x2)), (3, (0, 1)), (4, (4, 1))] [] jpA_15 1 6 (fun k v hsN => k = 0 ∧ v = (0, 1) ∧ hsN = jpA_15 ++ []) := by
  refine jT_xaload (v := (4, 1)) (pcN := 2) jI_354_0 rfl rfl rfl ?_
  refine jT_xiconst (k := 0) (pcN := 3) jI_354_2 rfl ?_
  refine jT_xaload_n (v := (4, 0)) (pcN := 4) jI_354_3 rfl rfl rfl ?_
  refine jT_xiload_n (v := (0, x1)) (pcN := 5) jI_354_4 rfl rfl rfl ?_
  refine jT_xiload_n (v := (0, x2)) (pcN := 6) jI_354_5 rfl rfl rfl ?_
  refine jT_xiload_n (v := (0, 1)) (pcN := 7) jI_354_6 rfl rfl rfl ?_
  exact jT_fX [0, 2, 3, 4, 5, 6, 7, 8, 9, 10, 11, 12] 13 (y := 149) (pcN := 10) (dC := 1) (bc1 := 1) (bc2 := 6) (as := [(4, 0), (0, x1), (0, x2), (0, 1)]) (asC := [(4, 0), (0, x1), (0, x2), (0, 1)]) (LN := [(0, (4, 0)), (1, (0, x1)), (2, (0, x2)), (3, (0, 1)), (4, (4, 1))]) (stN := [(0, 0), (4, 1)]) (hsC := jpA_6) (e := 0) (jA_149_887 (d := 0) (by omega) (by omega)) (by rfl) (by rfl) (by decide +kernel) (by rfl) (by rfl) (by omega) (by omega) (by omega) (by omega) (show _ from ⟨rfl, rfl, rfl⟩)
theorem jI_279_0 : jmI (jm 279) 0 = (.aload_n 0, 1) := by rfl
theorem jI_279_1 : jmI (jm 279) 1 = (.iload_n 1, 1) := by rfl
theorem jI_279_8 : jmI (jm 279) 8 = (.ifCond .ne 17, 3) := by rfl
theorem jI_279_25 : jmI (jm 279) 25 = (.iconst 0, 1) := by rfl
theorem jA_279_889 {xs : List Int} {d : Nat} {x1 x2 : Int} (h_x1 : (-2147483648) ≤ x1 ∧ x1 ≤ (-1)) (h_x2 : (-2147483648) ≤ x2 ∧ x2 ≤ 2147483647) : jT xs (d + 2) 279 16 0 [(0, (4, 0)), (1, (0, x1)), (2, (0, x2)), (3, (0, 1))] [] jpA_22 0 0 (fun k v hsN => k = 0 ∧ v = (0, 0) ∧ hsN = jpA_20) := by
  refine jT_xaload_n (v := (4, 0)) (pcN := 1) jI_279_0 rfl rfl rfl ?_
  refine jT_xiload_n (v := (0, x1)) (pcN := 2) jI_279_1 rfl rfl rfl ?_
  refine jT_fR [] 16 (y := 238) (pcN := 5) (dC := 1) (bc1 := 0) (bc2 := 0) (c1 := 0) (c2 := 0) (as := [(0, x1)]) (asC := [(0, x1)]) (LN := [(0, (4, 0)), (1, (0, x1)), (2, (0, x2)), (3, (0, 1))]) (stN := [(4, 0)]) (hsC := []) (v := (0, 0)) (st2 := [(0, 0), (4, 0)]) (jA_238_313 (d := 0) (by omega)) (by rfl) (by rfl) (by decide +kernel) (by rfl) (by rfl) (by omega) (by omega) (by omega) (by omega) rfl ?_
  refine jT_fB [0, 1, 2, 3, 4, 5, 6, 7, 8, 9, 10, 11, 12, 13, 14, 15] 16 (y := 190) (pcN := 8) (dC := 1) (bc1 := 0) (bc2 := 0) (c1 := 0) (c2 := 0) (as := [(4, 0), (0, 0)]) (asC := [(4, 0), (0, 0)]) (LN := [(0, (4, 0)), (1, (0, x1)), (2, (0, x2)), (3, (0, 1))]) (stN := []) (hsC := jpA_22) (hsD := jpA_20) (v := (0, 1)) (st2 := [(0, 1)]) (hs2 := jpA_20) (jA_190_6 (d := 0)) (by rfl) (by rfl) (by decide +kernel) (by rfl) (by rfl) (by omega) (by omega) (by omega) (by omega) rfl (by decide +kernel) ?_
  refine jT_xifT (pcN := 25) jI_279_8 rfl (by decide +kernel) rfl ?_
  refine jT_xiconst (k := 0) (pcN := 26) jI_279_25 rfl ?_
  exact jT_ret rfl (by decide) (by show 16 ≤ 16; decide) (by omega) (by omega) ⟨rfl, rfl, rfl⟩
theorem jI_149_6 : jmI (jm 149) 6 = (.aload_n 0, 1) := by rfl
theorem jI_149_7 : jmI (jm 149) 7 = (.getfield 67, 3) := by rfl
theorem jI_149_10 : jmI (jm 149) 10 = (.iload_n 1, 1) := by rfl
theorem jI_149_14 : jmI (jm 149) 14 = (.astore 4, 2) := by rfl
theorem jI_149_16 : jmI (jm 149) 16 = (.aload_n 0, 1) := by rfl
theorem jI_149_17 : jmI (jm 149) 17 = (.iload_n 2, 1) := by rfl
theorem jI_149_18 : jmI (jm 149) 18 = (.aload 4, 2) := by rfl
theorem jA_149_890 {xs : List Int} {d : Nat} {x2 : Int} (h_x2 : (-2147483648) ≤ x2 ∧ x2 ≤ (-1)) : jT xs (d + 1) 149 23 0 [(0, (4, 0)), (1, (0, 0)), (2, (0, x2)), (3, (0, 1))] [] jpA_1805 1 6 (fun k v hsN => k = 1 ∧ v = (0, 0) ∧ hsN = jpA_1805 ++ []) := by
  refine jT_xaload_n (v := (4, 0)) (pcN := 1) jI_149_0 rfl rfl rfl ?_
  refine jT_xiload_n (v := (0, 0)) (pcN := 2) jI_149_1 rfl rfl rfl ?_
  refine jT_xiconst (k := 4) (pcN := 3) jI_149_2 rfl ?_
  refine jT_fR [0] 23 (y := 115) (pcN := 6) (dC := 0) (bc1 := 0) (bc2 := 0) (c1 := 1) (c2 := 6) (as := [(4, 0), (0, 0), (0, 4)]) (asC := [(4, 0), (0, 0), (0, 4)]) (LN := [(0, (4, 0)), (1, (0, 0)), (2, (0, x2)), (3, (0, 1))]) (stN := []) (hsC := [jgh]) (v := (9, 0)) (st2 := []) (jA_115_321 (d := 0)) (by rfl) (by rfl) (by decide +kernel) (by rfl) (by rfl) (by omega) (by omega) (by omega) (by omega) rfl ?_
  refine jT_xaload_n (v := (4, 0)) (pcN := 7) jI_149_6 rfl rfl rfl ?_
  refine jT_xgetf (a := 0) (t := 1) (ci := 13) (fi := 11) (c := jzA_5) (v := (4, 11)) (pcN := 10) jI_149_7 rfl rfl rfl rfl rfl rfl rfl ?_
  refine jT_xiload_n (v := (0, 0)) (pcN := 11) jI_149_10 rfl rfl rfl ?_
  refine jT_fR [11, 12, 13, 14, 15, 16, 17, 18, 19, 20] 23 (y := 56) (pcN := 14) (dC := 0) (bc1 := 0) (bc2 := 0) (c1 := 1) (c2 := 6) (as := [(4, 11), (0, 0)]) (asC := [(4, 0), (0, 0)]) (LN := [(0, (4, 0)), (1, (0, 0)), (2, (0, x2)), (3, (0, 1))]) (stN := []) (hsC := jpA_1446) (v := (4, 6)) (st2 := [(4, 17)]) (jA_56_322 (d := 0)) (by rfl) (by rfl) (by decide +kernel) (by rfl) (by rfl) (by omega) (by omega) (by omega) (by omega) rfl ?_
  refine jT_xastore (v := (4, 17)) (LN := [(4, (4, 17)), (0, (4, 0)), (1, (0, 0)), (2, (0, x2)), (3, (0, 1))]) (pcN := 16) jI_149_14 rfl rfl rfl rfl ?_
  refine jT_xaload_n (v := (4, 0)) (pcN := 17) jI_149_16 rfl rfl rfl ?_
  refine jT_xiload_n (v := (0, x2)) (pcN := 18) jI_149_17 rfl rfl rfl ?_
  refine jT_xaload (v := (4, 17)) (pcN := 20) jI_149_18 rfl rfl rfl ?_
  refine jT_fR [17, 21, 22] 23 (y := 29) (pcN := 23) (dC := 0) (bc1 := 0) (bc2 := 0) (c1 := 1) (c2 := 6) (as := [(4, 17)]) (asC := [(4, 0)]) (LN := [(4, (4, 17)), (0, (4, 0)), (1, (0, 0)), (2, (0, x2)), (3, (0, 1))]) (stN := [(0, x2), (4, 0)]) (hsC := [(7, [(4, 1), (4, (-1)), (4, (-1))], []), (114, [], [2]), jgh]) (v := (0, 1)) (st2 := [(0, 1), (0, x2), (4, 0)]) (jA_29_416 (d := 0)) (by rfl) (by rfl) (by decide +kernel) (by rfl) (by rfl) (by omega) (by omega) (by omega) (by omega) rfl ?_
  exact jT_fX [0] 23 (y := 115) (pcN := 26) (dC := 0) (bc1 := 1) (bc2 := 6) (as := [(4, 0), (0, x2), (0, 1)]) (asC := [(4, 0), (0, x2), (0, 1)]) (LN := [(4, (4, 17)), (0, (4, 0)), (1, (0, 0)), (2, (0, x2)), (3, (0, 1))]) (stN := []) (hsC := [jgh]) (e := 0) (jA_115_438 (d := 0) (by omega)) (by rfl) (by rfl) (by decide +kernel) (by rfl) (by rfl) (by omega) (by omega) (by omega) (by omega) ⟨rfl, ⟨rfl, rfl, rfl⟩⟩
theorem jA_354_891 {xs : List Int} {d : Nat} {x2 : Int} (h_x2 : (-2147483648) ≤ x2 ∧ x2 ≤ (-1)) : jT xs (d + 2) 354 24 0 [(0, (4, 0)), (1, (0, 0)), (2, (0, x2)), (3, (0, 1)), (4, (4, 1))] [] jpA_1806 1 6 (fun k v hsN => k = 0 ∧ v = (0, 1) ∧ hsN = jpA_1806 ++ []) := by
  refine jT_xaload (v := (4, 1)) (pcN := 2) jI_354_0 rfl rfl rfl ?_
  refine jT_xiconst (k := 0) (pcN := 3) jI_354_2 rfl ?_
  refine jT_xaload_n (v := (4, 0)) (pcN := 4) jI_354_3 rfl rfl rfl ?_
  refine jT_xiload_n (v := (0, 0)) (pcN := 5) jI_354_4 rfl rfl rfl ?_
  refine jT_xiload_n (v := (0, x2)) (pcN := 6) jI_354_5 rfl rfl rfl ?_
  refine jT_xiload_n (v := (0, 1)) (pcN := 7) jI_354_6 rfl rfl rfl ?_
  exact jT_fX [0, 2, 3, 4, 5, 6, 7, 8, 9, 10, 11, 12, 13, 14, 15, 16, 17, 18, 19, 20, 21, 22, 23] 24 (y := 149) (pcN := 10) (dC := 1) (bc1 := 1) (bc2 := 6) (as := [(4, 0), (0, 0), (0, x2), (0, 1)]) (asC := [(4, 0), (0, 0), (0, x2), (0, 1)]) (LN := [(0, (4, 0)), (1, (0, 0)), (2, (0, x2)), (3, (0, 1)), (4, (4, 1))]) (stN := [(0, 0), (4, 1)]) (hsC := jpA_1805) (e := 0) (jA_149_890 (d := 0) (by omega)) (by rfl) (by rfl) (by decide +kernel) (by rfl) (by rfl) (by omega) (by omega) (by omega) (by omega) (show _ from ⟨rfl, rfl, rfl⟩)
theorem jI_279_11 : jmI (jm 279) 11 = (.aload_n 0, 1) := by rfl
theorem jI_279_12 : jmI (jm 279) 12 = (.aload_n 0, 1) := by rfl
theorem jI_279_13 : jmI (jm 279) 13 = (.iload_n 1, 1) := by rfl
theorem jI_279_14 : jmI (jm 279) 14 = (.iload_n 2, 1) := by rfl
theorem jI_279_18 : jmI (jm 279) 18 = (.iconst 1, 1) := by rfl
theorem jI_279_22 : jmI (jm 279) 22 = (.ifCond .eq 5, 3) := by rfl
theorem jA_279_892 {xs : List Int} {d : Nat} {x2 : Int} (h_x2 : (-2147483648) ≤ x2 ∧ x2 ≤ (-1)) : jT xs (d + 2) 279 16 0 [(0, (4, 0)), (1, (0, 0)), (2, (0, x2)), (3, (0, 1))] [] jpA_1519 0 0 (fun k v hsN => k = 0 ∧ v = (0, 0) ∧ hsN = jpA_1820) := by
  refine jT_xaload_n (v := (4, 0)) (pcN := 1) jI_279_0 rfl rfl rfl ?_
  refine jT_xiload_n (v := (0, 0)) (pcN := 2) jI_279_1 rfl rfl rfl ?_
  refine jT_fR [] 16 (y := 238) (pcN := 5) (dC := 1) (bc1 := 0) (bc2 := 0) (c1 := 0) (c2 := 0) (as := [(0, 0)]) (asC := [(0, 0)]) (LN := [(0, (4, 0)), (1, (0, 0)), (2, (0, x2)), (3, (0, 1))]) (stN := [(4, 0)]) (hsC := []) (v := (0, 1)) (st2 := [(0, 1), (4, 0)]) (jA_238_338 (d := 0)) (by rfl) (by rfl) (by decide +kernel) (by rfl) (by rfl) (by omega) (by omega) (by omega) (by omega) rfl ?_
  refine jT_fR [0, 1, 2, 3, 4, 5, 6, 7, 8, 9, 10, 11, 12, 13, 14, 15] 16 (y := 190) (pcN := 8) (dC := 1) (bc1 := 0) (bc2 := 0) (c1 := 0) (c2 := 0) (as := [(4, 0), (0, 1)]) (asC := [(4, 0), (0, 1)]) (LN := [(0, (4, 0)), (1, (0, 0)), (2, (0, x2)), (3, (0, 1))]) (stN := []) (hsC := jpA_22) (v := (0, 0)) (st2 := [(0, 0)]) (jA_190_39 (d := 0)) (by rfl) (by rfl) (by decide +kernel) (by rfl) (by rfl) (by omega) (by omega) (by omega) (by omega) rfl ?_
  refine jT_xifF (t := 25) (pcN := 11) jI_279_8 rfl (by decide +kernel) rfl rfl ?_
  refine jT_xaload_n (v := (4, 0)) (pcN := 12) jI_279_11 rfl rfl rfl ?_
  refine jT_xaload_n (v := (4, 0)) (pcN := 13) jI_279_12 rfl rfl rfl ?_
  refine jT_xiload_n (v := (0, 0)) (pcN := 14) jI_279_13 rfl rfl rfl ?_
  refine jT_xiload_n (v := (0, x2)) (pcN := 15) jI_279_14 rfl rfl rfl ?_
  refine jT_fR [0, 1, 2, 3, 4, 5, 6, 7, 8, 9, 10, 11, 12, 13, 14, 15] 16 (y := 247) (pcN := 18) (dC := 1) (bc1 := 0) (bc2 := 0) (c1 := 0) (c2 := 0) (as := [(4, 0), (0, 0), (0, x2)]) (asC := [(4, 0), (0, 0), (0, x2)]) (LN := [(0, (4, 0)), (1, (0, 0)), (2, (0, x2)), (3, (0, 1))]) (stN := [(4, 0)]) (hsC := jpA_1519) (v := (0, 0)) (st2 := [(0, 0), (4, 0)]) (jA_247_441 (d := 0) (by omega)) (by rfl) (by rfl) (by decide +kernel) (by rfl) (by rfl) (by omega) (by omega) (by omega) (by omega) rfl ?_
  refine jT_xiconst (k := 1) (pcN := 19) jI_279_18 rfl ?_
  refine jT_fB [0, 1, 2, 3, 4, 5, 6, 7, 8, 9, 10, 11, 12, 13, 14, 15] 16 (y := 191) (pcN := 22) (dC := 0) (bc1 := 0) (bc2 := 0) (c1 := 0) (c2 := 0) (as := [(4, 0), (0, 0), (0, 1)]) (asC := [(4, 0), (0, 0), (0, 1)]) (LN := [(0, (4, 0)), (1, (0, 0)), (2, (0, x2)), (3, (0, 1))]) (stN := []) (hsC := jpA_22) (hsD := jpA_20) (v := (0, 1)) (st2 := [(0, 1)]) (hs2 := jpA_1820) (jA_191_5 (d := 0)) (by rfl) (by rfl) (by decide +kernel) (by rfl) (by rfl) (by omega) (by omega) (by omega) (by omega) rfl (by decide +kernel) ?_
  refine jT_xifF (t := 27) (pcN := 25) jI_279_22 rfl (by decide +kernel) rfl rfl ?_
  refine jT_xiconst (k := 0) (pcN := 26) jI_279_25 rfl ?_
  exact jT_ret rfl (by decide) (by show 16 ≤ 16; decide) (by omega) (by omega) ⟨rfl, rfl, rfl⟩
theorem jA_97_893 {xs : List Int} {d : Nat} : jT xs d 97 1 0 [(0, (4, 0)), (1, (1, 1))] [] [(101, [], [1, 0, 0, 0, 0, 0])] 0 0 (fun k v hsN => k = 0 ∧ v = (1, 1) ∧ hsN = [(101, [], [1, 0, 0, 0, 0, 0])] ++ []) := by
  refine jT_advK 25 (pcN := 60) (LN := [(5, (0, 0)), (3, (1, 1)), (0, (4, 0)), (1, (1, 1))]) (stN := [(1, 1)]) (hsN := [(101, [], [1, 0, 0, 0, 0, 0])]) (c1 := 0) (s1 := 0) (c2 := 0) (s2 := 0) (by decide +kernel) ?_ (by omega) (by omega)
  exact jT_ret rfl (by decide) (by show 1 ≤ 1; decide) (by omega) (by omega) ⟨rfl, rfl, rfl⟩
theorem jA_9_894 {xs : List Int} {d : Nat} : jT xs (d + 1) 9 2 0 [(0, (4, 0)), (1, (4, 1)), (2, (1, 1))] [] [(4, [(4, (-1)), (1, 0)], []), (101, [], [1, 0, 0, 0, 0, 0])] 0 0 (fun k v hsN => k = 0 ∧ v = (9, 0) ∧ hsN = [(4, [(4, 1), (1, 1)], []), (101, [], [1, 0, 0, 0, 0, 0])]) := by
  refine jT_advK 8 (pcN := 12) (LN := [(0, (4, 0)), (1, (4, 1)), (2, (1, 1))]) (stN := [(1, 1), (4, 1), (4, 0)]) (hsN := [(4, [(4, 1), (1, 0)], []), (101, [], [1, 0, 0, 0, 0, 0])]) (c1 := 0) (s1 := 0) (c2 := 0) (s2 := 0) (by decide +kernel) ?_ (by omega) (by omega)
  refine jT_fR [1] 2 (y := 97) (pcN := 15) (dC := 0) (bc1 := 0) (bc2 := 0) (c1 := 0) (c2 := 0) (as := [(4, 1), (1, 1)]) (asC := [(4, 0), (1, 1)]) (LN := [(0, (4, 0)), (1, (4, 1)), (2, (1, 1))]) (stN := [(4, 0)]) (hsC := [(101, [], [1, 0, 0, 0, 0, 0])]) (v := (1, 1)) (st2 := [(1, 1), (4, 0)]) (jA_97_893 (d := 0)) (by rfl) (by rfl) (by decide +kernel) (by rfl) (by rfl) (by omega) (by omega) (by omega) (by omega) rfl ?_
  refine jT_advK 1 (pcN := 18) (LN := [(0, (4, 0)), (1, (4, 1)), (2, (1, 1))]) (stN := []) (hsN := [(4, [(4, 1), (1, 1)], []), (101, [], [1, 0, 0, 0, 0, 0])]) (c1 := 0) (s1 := 0) (c2 := 0) (s2 := 0) (by decide +kernel) ?_ (by omega) (by omega)
  exact jT_ret rfl (by decide) (by show 2 ≤ 2; decide) (by omega) (by omega) ⟨rfl, rfl, rfl⟩
def jpA_3602 : List JC := [(4, [(4, 1), (1, 1)], []), (101, [], [0, 0, 0, 0, 0, 0]), (101, [], [1, 0, 0, 0, 0, 0]), (4, [(4, (-1)), (1, 0)], [])]
def jpA_3603 : List JC := [(4, [(4, 1), (1, 1)], []), (101, [], [0, 0, 0, 0, 0, 0]), (101, [], [1, 0, 0, 0, 0, 0]), (4, [(4, 2), (1, 1)], [])]
theorem jA_10_895 {xs : List Int} {d : Nat} : jT xs (d + 2) 10 2 0 [(0, (4, 0)), (1, (1, 1)), (3, (1, 1)), (5, (1, 1))] [] [(4, [(4, 1), (1, 1)], []), (101, [], [0, 0, 0, 0, 0, 0])] 2 8 (fun k v hsN => k = 0 ∧ v = (4, 3) ∧ hsN = [(4, [(4, 1), (1, 1)], []), (101, [], [0, 0, 0, 0, 0, 0])] ++ [(101, [], [1, 0, 0, 0, 0, 0]), (4, [(4, 2), (1, 1)], [])]) := by
  refine jT_advK 111 (pcN := 64) (LN := [(8, (0, 6)), (7, (4, 2)), (0, (4, 0)), (1, (1, 1)), (3, (1, 1)), (5, (1, 1))]) (stN := [(1, 1), (4, 2), (4, 3), (4, 3)]) (hsN := jpA_3602) (c1 := 2) (s1 := 8) (c2 := 0) (s2 := 0) (by decide +kernel) ?_ (by omega) (by omega)
  refine jT_fB [3, 2] 4 (y := 9) (pcN := 67) (dC := 1) (bc1 := 0) (bc2 := 0) (c1 := 0) (c2 := 0) (as := [(4, 3), (4, 2), (1, 1)]) (asC := [(4, 0), (4, 1), (1, 1)]) (LN := [(8, (0, 6)), (7, (4, 2)), (0, (4, 0)), (1, (1, 1)), (3, (1, 1)), (5, (1, 1))]) (stN := [(4, 3)]) (hsC := [(4, [(4, (-1)), (1, 0)], []), (101, [], [1, 0, 0, 0, 0, 0])]) (hsD := [(4, [(4, 1), (1, 1)], []), (101, [], [1, 0, 0, 0, 0, 0])]) (v := (9, 0)) (st2 := [(4, 3)]) (hs2 := jpA_3603) (jA_9_894 (d := 0)) (by rfl) (by rfl) (by decide +kernel) (by rfl) (by rfl) (by omega) (by omega) (by omega) (by omega) rfl (by decide +kernel) ?_
  exact jT_ret rfl (by decide) (by show 2 ≤ 4; decide) (by omega) (by omega) ⟨rfl, rfl, rfl⟩
def jpA_3604 : List JC := [(7, [(4, 1), (4, 2), (4, (-1))], []), (114, [], [3]), jgh, (4, [(4, 4), (1, 1)], []), (101, [], [0, 0, 0, 0, 0, 0])]
def jpA_3605 : List JC := [(7, [(4, 1), (4, 2), (4, (-1))], []), (114, [], [3]), jgh, (4, [(4, 4), (1, 1)], []), (101, [], [0, 0, 0, 0, 0, 0]), (101, [], [0, 0, 0, 0, 0, 0]), (4, [(4, 5), (1, 1)], [])]
def jpA_3606 : List JC := [(7, [(4, 1), (4, 2), (4, (-1))], []), (114, [], [3]), jgh, (4, [(4, 4), (1, 1)], []), (101, [], [0, 0, 0, 0, 0, 0]), (101, [], [0, 0, 0, 0, 0, 0]), (4, [(4, 5), (1, 1)], []), (101, [], [1, 0, 0, 0, 0, 0]), (4, [(4, 7), (1, 1)], [])]
def jpA_3607 : List JC := [(101, [], [0, 0, 0, 0, 0, 0]), (4, [(4, 5), (1, 1)], []), (101, [], [1, 0, 0, 0, 0, 0]), (4, [(4, 7), (1, 1)], [])]
theorem jA_32_896 {xs : List Int} {d : Nat} : jT xs (d + 3) 32 5 0 [(0, (4, 0)), (1, (0, 0)), (2, (0, 1))] [] jpA_3604 4 16 (fun k v hsN => k = 0 ∧ v = (4, 8) ∧ hsN = jpA_3604 ++ jpA_3607) := by
  refine jT_advK 28 (pcN := 48) (LN := [(4, (0, 1)), (3, (0, 1)), (0, (4, 0)), (1, (0, 0)), (2, (0, 1))]) (stN := [(0, 1), (4, 3), (4, 3)]) (hsN := jpA_3604) (c1 := 0) (s1 := 0) (c2 := 4) (s2 := 16) (by decide +kernel) ?_ (by omega) (by omega)
  refine jT_fA [3, 4] 5 (y := 11) (pcN := 51) (dC := 2) (bc1 := 2) (bc2 := 8) (c1 := 2) (c2 := 8) (as := [(4, 3), (4, 3), (0, 1)]) (asC := [(4, 0), (4, 0), (0, 1)]) (LN := [(4, (0, 1)), (3, (0, 1)), (0, (4, 0)), (1, (0, 0)), (2, (0, 1))]) (stN := []) (hsC := [(4, [(4, 1), (1, 1)], []), (101, [], [0, 0, 0, 0, 0, 0])]) (ex := [(101, [], [0, 0, 0, 0, 0, 0]), (4, [(4, 2), (1, 1)], [])]) (v := (4, 3)) (st2 := [(4, 6)]) (hs2 := jpA_3605) (jA_11_28 (d := 0)) (by rfl) (by rfl) (by decide +kernel) (by rfl) (by rfl) (by omega) (by omega) (by omega) (by omega) rfl (by decide +kernel) ?_
  refine jT_advK 7 (pcN := 63) (LN := [(5, (4, 6)), (4, (0, 1)), (3, (0, 1)), (0, (4, 0)), (1, (0, 0)), (2, (0, 1))]) (stN := [(1, 1), (1, 1), (1, 1), (4, 6)]) (hsN := jpA_3605) (c1 := 0) (s1 := 0) (c2 := 2) (s2 := 8) (by decide +kernel) ?_ (by omega) (by omega)
  refine jT_fA [6, 5] 7 (y := 10) (pcN := 66) (dC := 2) (bc1 := 2) (bc2 := 8) (c1 := 0) (c2 := 0) (as := [(4, 6), (1, 1), (1, 1), (1, 1)]) (asC := [(4, 0), (1, 1), (1, 1), (1, 1)]) (LN := [(5, (4, 6)), (4, (0, 1)), (3, (0, 1)), (0, (4, 0)), (1, (0, 0)), (2, (0, 1))]) (stN := []) (hsC := [(4, [(4, 1), (1, 1)], []), (101, [], [0, 0, 0, 0, 0, 0])]) (ex := [(101, [], [1, 0, 0, 0, 0, 0]), (4, [(4, 2), (1, 1)], [])]) (v := (4, 3)) (st2 := [(4, 8)]) (hs2 := jpA_3606) (jA_10_895 (d := 0)) (by rfl) (by rfl) (by decide +kernel) (by rfl) (by rfl) (by omega) (by omega) (by omega) (by omega) rfl (by decide +kernel) ?_
  refine jT_advK 1 (pcN := 71) (LN := [(5, (4, 6)), (4, (0, 1)), (3, (0, 1)), (0, (4, 0)), (1, (0, 0)), (2, (0, 1))]) (stN := [(4, 8)]) (hsN := jpA_3606) (c1 := 0) (s1 := 0) (c2 := 0) (s2 := 0) (by decide +kernel) ?_ (by omega) (by omega)
  exact jT_ret rfl (by decide) (by show 5 ≤ 9; decide) (by omega) (by omega) ⟨rfl, rfl, rfl⟩
def jpA_3608 : List JC := [(7, [(4, 1), (4, 4), (4, (-1))], []), (114, [], [2]), (4, [(4, 3), (1, 1)], []), (101, [], [0, 0, 0, 0, 0, 0]), (114, [], [(-1)])]
def jpA_3609 : List JC := [(7, [(4, 1), (4, 4), (4, (-1))], []), (114, [], [2]), (4, [(4, 3), (1, 1)], []), (101, [], [0, 0, 0, 0, 0, 0]), (114, [], [(-1)]), (101, [], [0, 0, 0, 0, 0, 0]), (4, [(4, 5), (1, 1)], []), (101, [], [1, 0, 0, 0, 0, 0]), (4, [(4, 7), (1, 1)], [])]
def jpA_3610 : List JC := [(7, [(4, 1), (4, 4), (4, (-1))], []), (114, [], [2]), (4, [(4, 3), (1, 1)], []), (101, [], [0, 0, 0, 0, 0, 0]), (114, [], [8]), (101, [], [0, 0, 0, 0, 0, 0]), (4, [(4, 5), (1, 1)], []), (101, [], [1, 0, 0, 0, 0, 0]), (4, [(4, 7), (1, 1)], [])]
theorem jA_31_897 {xs : List Int} {d : Nat} : jT xs (d + 4) 31 4 0 [(0, (4, 0)), (1, (0, 0))] [] jpA_1822 5 17 (fun k v hsN => k = 0 ∧ v = (4, 8) ∧ hsN = jpA_3610) := by
  refine jT_advK 22 (pcN := 38) (LN := [(2, (0, 0)), (0, (4, 0)), (1, (0, 0))]) (stN := [(0, 1), (0, 0), (4, 0), (0, 0), (4, 4)]) (hsN := jpA_3608) (c1 := 1) (s1 := 1) (c2 := 4) (s2 := 16) (by decide +kernel) ?_ (by omega) (by omega)
  refine jT_fA [0, 1, 4, 2, 3] 5 (y := 32) (pcN := 41) (dC := 3) (bc1 := 4) (bc2 := 16) (c1 := 0) (c2 := 0) (as := [(4, 0), (0, 0), (0, 1)]) (asC := [(4, 0), (0, 0), (0, 1)]) (LN := [(2, (0, 0)), (0, (4, 0)), (1, (0, 0))]) (stN := [(0, 0), (4, 4)]) (hsC := jpA_3604) (ex := jpA_3607) (v := (4, 8)) (st2 := [(4, 8), (0, 0), (4, 4)]) (hs2 := jpA_3609) (jA_32_896 (d := 0)) (by rfl) (by rfl) (by decide +kernel) (by rfl) (by rfl) (by omega) (by omega) (by omega) (by omega) rfl (by decide +kernel) ?_
  refine jT_advK 12 (pcN := 54) (LN := [(2, (0, 1)), (0, (4, 0)), (1, (0, 0))]) (stN := [(4, 8)]) (hsN := jpA_3610) (c1 := 0) (s1 := 0) (c2 := 0) (s2 := 0) (by decide +kernel) ?_ (by omega) (by omega)
  exact jT_ret rfl (by decide) (by show 4 ≤ 9; decide) (by omega) (by omega) ⟨rfl, rfl, rfl⟩
theorem jA_39_898 {xs : List Int} {d : Nat} : jT xs d 39 2 0 [(0, (4, 0)), (1, (4, 1))] [] [jgh, (101, [], [1, 0, 0, 0, 0, 0])] 0 0 (fun k v hsN => k = 0 ∧ v = (1, 0) ∧ hsN = [jgh, (101, [], [1, 0, 0, 0, 0, 0])] ++ []) := by
  refine jT_advK 68 (pcN := 29) (LN := [(4, (0, 6)), (2, (1, 0)), (0, (4, 0)), (1, (4, 1))]) (stN := [(1, 0)]) (hsN := [jgh, (101, [], [1, 0, 0, 0, 0, 0])]) (c1 := 0) (s1 := 0) (c2 := 0) (s2 := 0) (by decide +kernel) ?_ (by omega) (by omega)
  exact jT_ret rfl (by decide) (by show 2 ≤ 2; decide) (by omega) (by omega) ⟨rfl, rfl, rfl⟩
theorem jA_373_899 {xs : List Int} {d : Nat} : jT xs d 373 0 0 [(0, (1, 2400)), (2, (1, 1))] [] [] 0 0 (fun k v hsN => k = 0 ∧ v = (1, 2400) ∧ hsN = [] ++ []) := by
  refine jT_advK 11 (pcN := 29) (LN := [(4, (1, 2400)), (0, (1, 2400)), (2, (1, 1))]) (stN := [(1, 2400)]) (hsN := []) (c1 := 0) (s1 := 0) (c2 := 0) (s2 := 0) (by decide +kernel) ?_ (by omega) (by omega)
  exact jT_ret rfl (by decide) (by show 0 ≤ 0; decide) (by omega) (by omega) ⟨rfl, rfl, rfl⟩
def jpA_3611 : List JC := [(8, [(4, 2), (4, 3)], []), (101, [], [1, 0, 0, 0, 0, 0]), jgh, jgh]
theorem jA_45_900 {xs : List Int} {d : Nat} : jT xs (d + 1) 45 4 0 [(0, (4, 0)), (1, (4, 1)), (2, (1, 1)), (4, (1, 2400))] [] jpA_3611 0 0 (fun k v hsN => k = 0 ∧ v = (1, 2400) ∧ hsN = jpA_3611 ++ []) := by
  refine jT_advK 10 (pcN := 17) (LN := [(0, (4, 0)), (1, (4, 1)), (2, (1, 1)), (4, (1, 2400))]) (stN := [(4, 1), (4, 0)]) (hsN := jpA_3611) (c1 := 0) (s1 := 0) (c2 := 0) (s2 := 0) (by decide +kernel) ?_ (by omega) (by omega)
  refine jT_fR [0, 1] 4 (y := 39) (pcN := 20) (dC := 0) (bc1 := 0) (bc2 := 0) (c1 := 0) (c2 := 0) (as := [(4, 0), (4, 1)]) (asC := [(4, 0), (4, 1)]) (LN := [(0, (4, 0)), (1, (4, 1)), (2, (1, 1)), (4, (1, 2400))]) (stN := []) (hsC := [jgh, (101, [], [1, 0, 0, 0, 0, 0])]) (v := (1, 0)) (st2 := [(1, 0)]) (jA_39_898 (d := 0)) (by rfl) (by rfl) (by decide +kernel) (by rfl) (by rfl) (by omega) (by omega) (by omega) (by omega) rfl ?_
  refine jT_advK 11 (pcN := 36) (LN := [(6, (1, 0)), (0, (4, 0)), (1, (4, 1)), (2, (1, 1)), (4, (1, 2400))]) (stN := [(1, 1), (1, 2400)]) (hsN := jpA_3611) (c1 := 0) (s1 := 0) (c2 := 0) (s2 := 0) (by decide +kernel) ?_ (by omega) (by omega)
  refine jT_fR [] 4 (y := 373) (pcN := 39) (dC := 0) (bc1 := 0) (bc2 := 0) (c1 := 0) (c2 := 0) (as := [(1, 2400), (1, 1)]) (asC := [(1, 2400), (1, 1)]) (LN := [(6, (1, 0)), (0, (4, 0)), (1, (4, 1)), (2, (1, 1)), (4, (1, 2400))]) (stN := []) (hsC := []) (v := (1, 2400)) (st2 := [(1, 2400)]) (jA_373_899 (d := 0)) (by rfl) (by rfl) (by decide +kernel) (by rfl) (by rfl) (by omega) (by omega) (by omega) (by omega) rfl ?_
  exact jT_ret rfl (by decide) (by show 4 ≤ 4; decide) (by omega) (by omega) ⟨rfl, rfl, rfl⟩
def jpA_3612 : List JC := [(8, [(4, 2), (4, 3)], []), (4, [(4, 4), (1, 1)], []), jgh, jgh, (101, [], [1, 0, 0, 0, 0, 0])]
theorem jA_44_901 {xs : List Int} {d : Nat} : jT xs (d + 2) 44 5 0 [(0, (4, 0)), (1, (4, 1)), (2, (1, 2400))] [] jpA_3612 0 0 (fun k v hsN => k = 0 ∧ v = (1, 2400) ∧ hsN = jpA_3612 ++ []) := by
  refine jT_advK 6 (pcN := 10) (LN := [(0, (4, 0)), (1, (4, 1)), (2, (1, 2400))]) (stN := [(1, 2400), (1, 1), (4, 4), (4, 0)]) (hsN := jpA_3612) (c1 := 0) (s1 := 0) (c2 := 0) (s2 := 0) (by decide +kernel) ?_ (by omega) (by omega)
  refine jT_fR [0, 4, 2, 3] 5 (y := 45) (pcN := 13) (dC := 1) (bc1 := 0) (bc2 := 0) (c1 := 0) (c2 := 0) (as := [(4, 0), (4, 4), (1, 1), (1, 2400)]) (asC := [(4, 0), (4, 1), (1, 1), (1, 2400)]) (LN := [(0, (4, 0)), (1, (4, 1)), (2, (1, 2400))]) (stN := []) (hsC := jpA_3611) (v := (1, 2400)) (st2 := [(1, 2400)]) (jA_45_900 (d := 0)) (by rfl) (by rfl) (by decide +kernel) (by rfl) (by rfl) (by omega) (by omega) (by omega) (by omega) rfl ?_
  exact jT_ret rfl (by decide) (by show 5 ≤ 5; decide) (by omega) (by omega) ⟨rfl, rfl, rfl⟩
theorem jA_373_902 {xs : List Int} {d : Nat} : jT xs d 373 0 0 [(0, (1, 2401)), (2, (1, 2))] [] [] 0 0 (fun k v hsN => k = 0 ∧ v = (1, 1200) ∧ hsN = [] ++ []) := by
  refine jT_advK 11 (pcN := 29) (LN := [(4, (1, 1200)), (0, (1, 2401)), (2, (1, 2))]) (stN := [(1, 1200)]) (hsN := []) (c1 := 0) (s1 := 0) (c2 := 0) (s2 := 0) (by decide +kernel) ?_ (by omega) (by omega)
  exact jT_ret rfl (by decide) (by show 0 ≤ 0; decide) (by omega) (by omega) ⟨rfl, rfl, rfl⟩
theorem jA_374_903 {xs : List Int} {d : Nat} : jT xs (d + 1) 374 0 0 [(0, (1, 2401)), (2, (0, 2))] [] [] 0 0 (fun k v hsN => k = 0 ∧ v = (1, 1200) ∧ hsN = [] ++ []) := by
  refine jT_advK 3 (pcN := 3) (LN := [(0, (1, 2401)), (2, (0, 2))]) (stN := [(1, 2), (1, 2401)]) (hsN := []) (c1 := 0) (s1 := 0) (c2 := 0) (s2 := 0) (by decide +kernel) ?_ (by omega) (by omega)
  refine jT_fR [] 0 (y := 373) (pcN := 6) (dC := 0) (bc1 := 0) (bc2 := 0) (c1 := 0) (c2 := 0) (as := [(1, 2401), (1, 2)]) (asC := [(1, 2401), (1, 2)]) (LN := [(0, (1, 2401)), (2, (0, 2))]) (stN := []) (hsC := []) (v := (1, 1200)) (st2 := [(1, 1200)]) (jA_373_902 (d := 0)) (by rfl) (by rfl) (by decide +kernel) (by rfl) (by rfl) (by omega) (by omega) (by omega) (by omega) rfl ?_
  exact jT_ret rfl (by decide) (by show 0 ≤ 0; decide) (by omega) (by omega) ⟨rfl, rfl, rfl⟩
theorem jA_43_904 {xs : List Int} {d : Nat} : jT xs (d + 3) 43 5 0 [(0, (4, 0)), (1, (4, 1)), (2, (1, 1200))] [] jpA_3612 0 0 (fun k v hsN => k = 0 ∧ v = (1, 1200) ∧ hsN = jpA_3612 ++ []) := by
  refine jT_advK 5 (pcN := 7) (LN := [(0, (4, 0)), (1, (4, 1)), (2, (1, 1200))]) (stN := [(1, 2400), (4, 1), (4, 0)]) (hsN := jpA_3612) (c1 := 0) (s1 := 0) (c2 := 0) (s2 := 0) (by decide +kernel) ?_ (by omega) (by omega)
  refine jT_fR [0, 1, 2, 3, 4] 5 (y := 44) (pcN := 10) (dC := 2) (bc1 := 0) (bc2 := 0) (c1 := 0) (c2 := 0) (as := [(4, 0), (4, 1), (1, 2400)]) (asC := [(4, 0), (4, 1), (1, 2400)]) (LN := [(0, (4, 0)), (1, (4, 1)), (2, (1, 1200))]) (stN := []) (hsC := jpA_3612) (v := (1, 2400)) (st2 := [(1, 2400)]) (jA_44_901 (d := 0)) (by rfl) (by rfl) (by decide +kernel) (by rfl) (by rfl) (by omega) (by omega) (by omega) (by omega) rfl ?_
  refine jT_advK 3 (pcN := 13) (LN := [(0, (4, 0)), (1, (4, 1)), (2, (1, 1200))]) (stN := [(0, 2), (1, 2401)]) (hsN := jpA_3612) (c1 := 0) (s1 := 0) (c2 := 0) (s2 := 0) (by decide +kernel) ?_ (by omega) (by omega)
  refine jT_fR [] 5 (y := 374) (pcN := 16) (dC := 1) (bc1 := 0) (bc2 := 0) (c1 := 0) (c2 := 0) (as := [(1, 2401), (0, 2)]) (asC := [(1, 2401), (0, 2)]) (LN := [(0, (4, 0)), (1, (4, 1)), (2, (1, 1200))]) (stN := []) (hsC := []) (v := (1, 1200)) (st2 := [(1, 1200)]) (jA_374_903 (d := 0)) (by rfl) (by rfl) (by decide +kernel) (by rfl) (by rfl) (by omega) (by omega) (by omega) (by omega) rfl ?_
  exact jT_ret rfl (by decide) (by show 5 ≤ 5; decide) (by omega) (by omega) ⟨rfl, rfl, rfl⟩
def jpA_3613 : List JC := [jzA_5, (8, [(4, 12), (4, 13)], []), jgh, jgh, jgh, jgh, jgh, jgh, jgh, jgh, jgh, jzA_640, jgh, jgh, jgh, (117, [], [19, 20, 21, 22]), jgh, jgh, jgh, (7, [(4, 23), (4, (-1)), (4, (-1))], []), jgh, jgh, jgh, (114, [], [24]), (4, [(4, 25), (1, 1)], []), (101, [], [0, 0, 0, 0, 0, 0])]
def jpA_3614 : List JC := [jzA_5, (8, [(4, 12), (4, 13)], []), jgh, jgh, jgh, jgh, jgh, jgh, jgh, jgh, jgh, jzA_640, jgh, jgh, jgh, (117, [], [19, 20, 21, 22]), jgh, jgh, jgh, (7, [(4, 23), (4, 26), (4, (-1))], []), jgh, jgh, jgh, (114, [], [24]), (4, [(4, 25), (1, 1)], []), (101, [], [0, 0, 0, 0, 0, 0]), (114, [], [30]), (101, [], [0, 0, 0, 0, 0, 0]), (4, [(4, 27), (1, 1)], []), (101, [], [1, 0, 0, 0, 0, 0]), (4, [(4, 29), (1, 1)], [])]
theorem jA_149_905 {xs : List Int} {d : Nat} : jT xs (d + 5) 149 26 0 [(0, (4, 0)), (1, (0, 0)), (2, (0, 0)), (3, (0, 1))] [] jpA_3613 5 17 (fun k v hsN => k = 0 ∧ v = (0, 1200) ∧ hsN = jpA_3614) := by
  refine jT_advK 3 (pcN := 3) (LN := [(0, (4, 0)), (1, (0, 0)), (2, (0, 0)), (3, (0, 1))]) (stN := [(0, 4), (0, 0), (4, 0)]) (hsN := jpA_3613) (c1 := 0) (s1 := 0) (c2 := 5) (s2 := 17) (by decide +kernel) ?_ (by omega) (by omega)
  refine jT_fR [0] 26 (y := 115) (pcN := 6) (dC := 0) (bc1 := 0) (bc2 := 0) (c1 := 5) (c2 := 17) (as := [(4, 0), (0, 0), (0, 4)]) (asC := [(4, 0), (0, 0), (0, 4)]) (LN := [(0, (4, 0)), (1, (0, 0)), (2, (0, 0)), (3, (0, 1))]) (stN := []) (hsC := [jgh]) (v := (9, 0)) (st2 := []) (jA_115_321 (d := 0)) (by rfl) (by rfl) (by decide +kernel) (by rfl) (by rfl) (by omega) (by omega) (by omega) (by omega) rfl ?_
  refine jT_advK 3 (pcN := 11) (LN := [(0, (4, 0)), (1, (0, 0)), (2, (0, 0)), (3, (0, 1))]) (stN := [(0, 0), (4, 11)]) (hsN := jpA_3613) (c1 := 0) (s1 := 0) (c2 := 5) (s2 := 17) (by decide +kernel) ?_ (by omega) (by omega)
  refine jT_fR [11, 14, 15, 16, 17, 18, 19, 20, 21, 22] 26 (y := 56) (pcN := 14) (dC := 0) (bc1 := 0) (bc2 := 0) (c1 := 5) (c2 := 17) (as := [(4, 11), (0, 0)]) (asC := [(4, 0), (0, 0)]) (LN := [(0, (4, 0)), (1, (0, 0)), (2, (0, 0)), (3, (0, 1))]) (stN := []) (hsC := jpA_1446) (v := (4, 6)) (st2 := [(4, 19)]) (jA_56_322 (d := 0)) (by rfl) (by rfl) (by decide +kernel) (by rfl) (by rfl) (by omega) (by omega) (by omega) (by omega) rfl ?_
  refine jT_advK 4 (pcN := 20) (LN := [(4, (4, 19)), (0, (4, 0)), (1, (0, 0)), (2, (0, 0)), (3, (0, 1))]) (stN := [(4, 19), (0, 0), (4, 0)]) (hsN := jpA_3613) (c1 := 0) (s1 := 0) (c2 := 5) (s2 := 17) (by decide +kernel) ?_ (by omega) (by omega)
  refine jT_fR [19, 23, 24] 26 (y := 29) (pcN := 23) (dC := 0) (bc1 := 0) (bc2 := 0) (c1 := 5) (c2 := 17) (as := [(4, 19)]) (asC := [(4, 0)]) (LN := [(4, (4, 19)), (0, (4, 0)), (1, (0, 0)), (2, (0, 0)), (3, (0, 1))]) (stN := [(0, 0), (4, 0)]) (hsC := [(7, [(4, 1), (4, (-1)), (4, (-1))], []), (114, [], [2]), jgh]) (v := (0, 1)) (st2 := [(0, 1), (0, 0), (4, 0)]) (jA_29_416 (d := 0)) (by rfl) (by rfl) (by decide +kernel) (by rfl) (by rfl) (by omega) (by omega) (by omega) (by omega) rfl ?_
  refine jT_fR [0] 26 (y := 115) (pcN := 26) (dC := 0) (bc1 := 0) (bc2 := 0) (c1 := 5) (c2 := 17) (as := [(4, 0), (0, 0), (0, 1)]) (asC := [(4, 0), (0, 0), (0, 1)]) (LN := [(4, (4, 19)), (0, (4, 0)), (1, (0, 0)), (2, (0, 0)), (3, (0, 1))]) (stN := []) (hsC := [jgh]) (v := (9, 0)) (st2 := []) (jA_115_443 (d := 0)) (by rfl) (by rfl) (by decide +kernel) (by rfl) (by rfl) (by omega) (by omega) (by omega) (by omega) rfl ?_
  refine jT_advK 6 (pcN := 37) (LN := [(4, (4, 19)), (0, (4, 0)), (1, (0, 0)), (2, (0, 0)), (3, (0, 1))]) (stN := [(0, 0), (4, 19), (4, 1)]) (hsN := jpA_3613) (c1 := 0) (s1 := 0) (c2 := 5) (s2 := 17) (by decide +kernel) ?_ (by omega) (by omega)
  refine jT_fB [19, 23, 24, 25] 26 (y := 31) (pcN := 40) (dC := 4) (bc1 := 5) (bc2 := 17) (c1 := 0) (c2 := 0) (as := [(4, 19), (0, 0)]) (asC := [(4, 0), (0, 0)]) (LN := [(4, (4, 19)), (0, (4, 0)), (1, (0, 0)), (2, (0, 0)), (3, (0, 1))]) (stN := [(4, 1)]) (hsC := jpA_1822) (hsD := jpA_3610) (v := (4, 8)) (st2 := [(4, 30), (4, 1)]) (hs2 := jpA_3614) (jA_31_897 (d := 0)) (by rfl) (by rfl) (by decide +kernel) (by rfl) (by rfl) (by omega) (by omega) (by omega) (by omega) rfl (by decide +kernel) ?_
  refine jT_advK 2 (pcN := 52) (LN := [(4, (4, 19)), (0, (4, 0)), (1, (0, 0)), (2, (0, 0)), (3, (0, 1))]) (stN := [(1, 1200), (4, 30), (4, 1)]) (hsN := jpA_3614) (c1 := 0) (s1 := 0) (c2 := 0) (s2 := 0) (by decide +kernel) ?_ (by omega) (by omega)
  refine jT_fR [1, 30, 12, 13, 29] 31 (y := 43) (pcN := 55) (dC := 3) (bc1 := 0) (bc2 := 0) (c1 := 0) (c2 := 0) (as := [(4, 1), (4, 30), (1, 1200)]) (asC := [(4, 0), (4, 1), (1, 1200)]) (LN := [(4, (4, 19)), (0, (4, 0)), (1, (0, 0)), (2, (0, 0)), (3, (0, 1))]) (stN := []) (hsC := jpA_3612) (v := (1, 1200)) (st2 := [(1, 1200)]) (jA_43_904 (d := 0)) (by rfl) (by rfl) (by decide +kernel) (by rfl) (by rfl) (by omega) (by omega) (by omega) (by omega) rfl ?_
  refine jT_advK 1 (pcN := 56) (LN := [(4, (4, 19)), (0, (4, 0)), (1, (0, 0)), (2, (0, 0)), (3, (0, 1))]) (stN := [(0, 1200)]) (hsN := jpA_3614) (c1 := 0) (s1 := 0) (c2 := 0) (s2 := 0) (by decide +kernel) ?_ (by omega) (by omega)
  exact jT_ret rfl (by decide) (by show 26 ≤ 31; decide) (by omega) (by omega) ⟨rfl, rfl, rfl⟩
def jpA_3615 : List JC := [jzA_14, (101, [], [0]), (8, [(4, 13), (4, 14)], []), jgh, jgh, jgh, jgh, jgh, jgh, jgh, jgh, jgh, jzA_659, jgh, jgh, jgh, (117, [], [20, 21, 22, 23]), jgh, jgh, jgh, (7, [(4, 24), (4, (-1)), (4, (-1))], []), jgh, jgh, jgh, (114, [], [25]), (4, [(4, 26), (1, 1)], []), (101, [], [0, 0, 0, 0, 0, 0])]
def jpA_3616 : List JC := [jzA_14, (101, [], [0]), (8, [(4, 13), (4, 14)], []), jgh, jgh, jgh, jgh, jgh, jgh, jgh, jgh, jgh, jzA_659, jgh, jgh, jgh, (117, [], [20, 21, 22, 23]), jgh, jgh, jgh, (7, [(4, 24), (4, 27), (4, (-1))], []), jgh, jgh, jgh, (114, [], [25]), (4, [(4, 26), (1, 1)], []), (101, [], [0, 0, 0, 0, 0, 0]), (114, [], [31]), (101, [], [0, 0, 0, 0, 0, 0]), (4, [(4, 28), (1, 1)], []), (101, [], [1, 0, 0, 0, 0, 0]), (4, [(4, 30), (1, 1)], [])]
def jpA_3617 : List JC := [jzA_14, (101, [], [1200]), (8, [(4, 13), (4, 14)], []), jgh, jgh, jgh, jgh, jgh, jgh, jgh, jgh, jgh, jzA_659, jgh, jgh, jgh, (117, [], [20, 21, 22, 23]), jgh, jgh, jgh, (7, [(4, 24), (4, 27), (4, (-1))], []), jgh, jgh, jgh, (114, [], [25]), (4, [(4, 26), (1, 1)], []), (101, [], [0, 0, 0, 0, 0, 0]), (114, [], [31]), (101, [], [0, 0, 0, 0, 0, 0]), (4, [(4, 28), (1, 1)], []), (101, [], [1, 0, 0, 0, 0, 0]), (4, [(4, 30), (1, 1)], [])]
theorem jA_354_906 {xs : List Int} {d : Nat} : jT xs (d + 6) 354 27 0 [(0, (4, 0)), (1, (0, 0)), (2, (0, 0)), (3, (0, 1)), (4, (4, 1))] [] jpA_3615 5 17 (fun k v hsN => k = 0 ∧ v = (0, 0) ∧ hsN = jpA_3617) := by
  refine jT_advK 6 (pcN := 7) (LN := [(0, (4, 0)), (1, (0, 0)), (2, (0, 0)), (3, (0, 1)), (4, (4, 1))]) (stN := [(0, 1), (0, 0), (0, 0), (4, 0), (0, 0), (4, 1)]) (hsN := jpA_3615) (c1 := 0) (s1 := 0) (c2 := 5) (s2 := 17) (by decide +kernel) ?_ (by omega) (by omega)
  refine jT_fB [0, 2, 3, 4, 5, 6, 7, 8, 9, 10, 11, 12, 13, 14, 15, 16, 17, 18, 19, 20, 21, 22, 23, 24, 25, 26] 27 (y := 149) (pcN := 10) (dC := 5) (bc1 := 5) (bc2 := 17) (c1 := 0) (c2 := 0) (as := [(4, 0), (0, 0), (0, 0), (0, 1)]) (asC := [(4, 0), (0, 0), (0, 0), (0, 1)]) (LN := [(0, (4, 0)), (1, (0, 0)), (2, (0, 0)), (3, (0, 1)), (4, (4, 1))]) (stN := [(0, 0), (4, 1)]) (hsC := jpA_3613) (hsD := jpA_3614) (v := (0, 1200)) (st2 := [(0, 1200), (0, 0), (4, 1)]) (hs2 := jpA_3616) (jA_149_905 (d := 0)) (by rfl) (by rfl) (by decide +kernel) (by rfl) (by rfl) (by omega) (by omega) (by omega) (by omega) rfl (by decide +kernel) ?_
  refine jT_advK 4 (pcN := 20) (LN := [(0, (4, 0)), (1, (0, 0)), (2, (0, 0)), (3, (0, 1)), (4, (4, 1))]) (stN := [(0, 0)]) (hsN := jpA_3617) (c1 := 0) (s1 := 0) (c2 := 0) (s2 := 0) (by decide +kernel) ?_ (by omega) (by omega)
  exact jT_ret rfl (by decide) (by show 27 ≤ 32; decide) (by omega) (by omega) ⟨rfl, rfl, rfl⟩
def jpA_3618 : List JC := [jzA_21, jgh, jgh, jgh, jgh, jgh, jgh, (101, [], [1, 0, 0, 0, 0, 0]), jgh, jgh, jgh, jgh, jgh, jgh, jgh, jgh]
theorem jA_199_907 {xs : List Int} {d : Nat} : jT xs (d + 2) 199 16 0 [(0, (4, 0))] [] jpA_3618 0 0 (fun k v hsN => k = 0 ∧ v = (9, 0) ∧ hsN = jpA_3618 ++ []) := by
  refine jT_advK 13 (pcN := 20) (LN := [(3, (0, 0)), (1, (1, 1)), (0, (4, 0))]) (stN := [(1, 1), (1, 1)]) (hsN := jpA_3618) (c1 := 0) (s1 := 0) (c2 := 0) (s2 := 0) (by decide +kernel) ?_ (by omega) (by omega)
  refine jT_fR [] 16 (y := 194) (pcN := 23) (dC := 1) (bc1 := 0) (bc2 := 0) (c1 := 0) (c2 := 0) (as := [(1, 1), (1, 1)]) (asC := [(1, 1), (1, 1)]) (LN := [(3, (0, 0)), (1, (1, 1)), (0, (4, 0))]) (stN := []) (hsC := []) (v := (1, 1)) (st2 := [(1, 1)]) (jA_194_43 (d := 0)) (by rfl) (by rfl) (by decide +kernel) (by rfl) (by rfl) (by omega) (by omega) (by omega) (by omega) rfl ?_
  refine jT_advK 11 (pcN := 20) (LN := [(3, (0, 1)), (1, (1, 1)), (0, (4, 0))]) (stN := [(1, 0), (1, 1)]) (hsN := jpA_3618) (c1 := 0) (s1 := 0) (c2 := 0) (s2 := 0) (by decide +kernel) ?_ (by omega) (by omega)
  refine jT_fR [] 16 (y := 194) (pcN := 23) (dC := 0) (bc1 := 0) (bc2 := 0) (c1 := 0) (c2 := 0) (as := [(1, 1), (1, 0)]) (asC := [(1, 1), (1, 0)]) (LN := [(3, (0, 1)), (1, (1, 1)), (0, (4, 0))]) (stN := []) (hsC := []) (v := (1, 1)) (st2 := [(1, 1)]) (jA_194_42 (d := 0)) (by rfl) (by rfl) (by decide +kernel) (by rfl) (by rfl) (by omega) (by omega) (by omega) (by omega) rfl ?_
  refine jT_advK 11 (pcN := 20) (LN := [(3, (0, 2)), (1, (1, 1)), (0, (4, 0))]) (stN := [(1, 0), (1, 1)]) (hsN := jpA_3618) (c1 := 0) (s1 := 0) (c2 := 0) (s2 := 0) (by decide +kernel) ?_ (by omega) (by omega)
  refine jT_fR [] 16 (y := 194) (pcN := 23) (dC := 0) (bc1 := 0) (bc2 := 0) (c1 := 0) (c2 := 0) (as := [(1, 1), (1, 0)]) (asC := [(1, 1), (1, 0)]) (LN := [(3, (0, 2)), (1, (1, 1)), (0, (4, 0))]) (stN := []) (hsC := []) (v := (1, 1)) (st2 := [(1, 1)]) (jA_194_42 (d := 0)) (by rfl) (by rfl) (by decide +kernel) (by rfl) (by rfl) (by omega) (by omega) (by omega) (by omega) rfl ?_
  refine jT_advK 11 (pcN := 20) (LN := [(3, (0, 3)), (1, (1, 1)), (0, (4, 0))]) (stN := [(1, 0), (1, 1)]) (hsN := jpA_3618) (c1 := 0) (s1 := 0) (c2 := 0) (s2 := 0) (by decide +kernel) ?_ (by omega) (by omega)
  refine jT_fR [] 16 (y := 194) (pcN := 23) (dC := 0) (bc1 := 0) (bc2 := 0) (c1 := 0) (c2 := 0) (as := [(1, 1), (1, 0)]) (asC := [(1, 1), (1, 0)]) (LN := [(3, (0, 3)), (1, (1, 1)), (0, (4, 0))]) (stN := []) (hsC := []) (v := (1, 1)) (st2 := [(1, 1)]) (jA_194_42 (d := 0)) (by rfl) (by rfl) (by decide +kernel) (by rfl) (by rfl) (by omega) (by omega) (by omega) (by omega) rfl ?_
  refine jT_advK 11 (pcN := 20) (LN := [(3, (0, 4)), (1, (1, 1)), (0, (4, 0))]) (stN := [(1, 0), (1, 1)]) (hsN := jpA_3618) (c1 := 0) (s1 := 0) (c2 := 0) (s2 := 0) (by decide +kernel) ?_ (by omega) (by omega)
  refine jT_fR [] 16 (y := 194) (pcN := 23) (dC := 0) (bc1 := 0) (bc2 := 0) (c1 := 0) (c2 := 0) (as := [(1, 1), (1, 0)]) (asC := [(1, 1), (1, 0)]) (LN := [(3, (0, 4)), (1, (1, 1)), (0, (4, 0))]) (stN := []) (hsC := []) (v := (1, 1)) (st2 := [(1, 1)]) (jA_194_42 (d := 0)) (by rfl) (by rfl) (by decide +kernel) (by rfl) (by rfl) (by omega) (by omega) (by omega) (by omega) rfl ?_
  refine jT_advK 11 (pcN := 20) (LN := [(3, (0, 5)), (1, (1, 1)), (0, (4, 0))]) (stN := [(1, 0), (1, 1)]) (hsN := jpA_3618) (c1 := 0) (s1 := 0) (c2 := 0) (s2 := 0) (by decide +kernel) ?_ (by omega) (by omega)
  refine jT_fR [] 16 (y := 194) (pcN := 23) (dC := 0) (bc1 := 0) (bc2 := 0) (c1 := 0) (c2 := 0) (as := [(1, 1), (1, 0)]) (asC := [(1, 1), (1, 0)]) (LN := [(3, (0, 5)), (1, (1, 1)), (0, (4, 0))]) (stN := []) (hsC := []) (v := (1, 1)) (st2 := [(1, 1)]) (jA_194_42 (d := 0)) (by rfl) (by rfl) (by decide +kernel) (by rfl) (by rfl) (by omega) (by omega) (by omega) (by omega) rfl ?_
  refine jT_advK 8 (pcN := 34) (LN := [(3, (0, 6)), (1, (1, 1)), (0, (4, 0))]) (stN := [(4, 7)]) (hsN := jpA_3618) (c1 := 0) (s1 := 0) (c2 := 0) (s2 := 0) (by decide +kernel) ?_ (by omega) (by omega)
  refine jT_fR [7] 16 (y := 200) (pcN := 37) (dC := 0) (bc1 := 0) (bc2 := 0) (c1 := 0) (c2 := 0) (as := [(4, 7)]) (asC := [(4, 0)]) (LN := [(3, (0, 6)), (1, (1, 1)), (0, (4, 0))]) (stN := []) (hsC := [(101, [], [1, 0, 0, 0, 0, 0])]) (v := (0, 0)) (st2 := [(0, 0)]) (jA_200_186 (d := 0)) (by rfl) (by rfl) (by decide +kernel) (by rfl) (by rfl) (by omega) (by omega) (by omega) (by omega) rfl ?_
  refine jT_advK 90 (pcN := 79) (LN := [(3, (0, 6)), (1, (1, 1)), (0, (4, 0))]) (stN := []) (hsN := jpA_3618) (c1 := 0) (s1 := 0) (c2 := 0) (s2 := 0) (by decide +kernel) ?_ (by omega) (by omega)
  exact jT_ret rfl (by decide) (by show 16 ≤ 16; decide) (by omega) (by omega) ⟨rfl, rfl, rfl⟩
def jpA_3619 : List JC := [jzA_21, (100, [], jS0), jgh, jgh, jgh, jgh, jgh, (101, [], [1, 0, 0, 0, 0, 0]), jgh, jgh, jgh, jgh, jgh, jgh, jgh, jgh]
theorem jA_204_908 {xs : List Int} {d : Nat} : jT xs (d + 3) 204 16 0 [(0, (4, 0)), (1, (4, 1)), (2, (0, 57)), (3, (1, (-1)))] [] jpA_3619 0 0 (fun k v hsN => k = 0 ∧ v = (9, 0) ∧ hsN = jpA_3619 ++ []) := by
  refine jT_advK 4 (pcN := 5) (LN := [(0, (4, 0)), (1, (4, 1)), (2, (0, 57)), (3, (1, (-1)))]) (stN := [(0, 63), (4, 1)]) (hsN := jpA_3619) (c1 := 0) (s1 := 0) (c2 := 0) (s2 := 0) (by decide +kernel) ?_ (by omega) (by omega)
  refine jT_iald (x := 1) (a := 1) (j := 63) (fs := []) (X := jS0) (by rfl) (by rfl) (by rfl) (by rfl) (by decide +kernel) ?_
  refine jT_eq (LN := [(0, (4, 0)), (1, (4, 1)), (2, (0, 57)), (3, (1, (-1)))]) (stN := [(0, 1)]) (hsN := jpA_3619) rfl rfl rfl ?_
  refine jT_advK 7 (pcN := 19) (LN := [(5, (1, 1)), (0, (4, 0)), (1, (4, 1)), (2, (0, 57)), (3, (1, (-1)))]) (stN := [(1, 1), (1, 1), (1, 1)]) (hsN := jpA_3619) (c1 := 0) (s1 := 0) (c2 := 0) (s2 := 0) (by decide +kernel) ?_ (by omega) (by omega)
  refine jT_fR [] 16 (y := 194) (pcN := 22) (dC := 1) (bc1 := 0) (bc2 := 0) (c1 := 0) (c2 := 0) (as := [(1, 1), (1, 1)]) (asC := [(1, 1), (1, 1)]) (LN := [(5, (1, 1)), (0, (4, 0)), (1, (4, 1)), (2, (0, 57)), (3, (1, (-1)))]) (stN := [(1, 1)]) (hsC := []) (v := (1, 1)) (st2 := [(1, 1), (1, 1)]) (jA_194_43 (d := 0)) (by rfl) (by rfl) (by decide +kernel) (by rfl) (by rfl) (by omega) (by omega) (by omega) (by omega) rfl ?_
  refine jT_advK 26 (pcN := 65) (LN := [(9, (0, 0)), (7, (1, 1)), (5, (1, 1)), (0, (4, 0)), (1, (4, 1)), (2, (0, 57)), (3, (1, (-1)))]) (stN := [(0, 57), (4, 1), (1, (-1)), (1, 1), (0, 0), (4, 7)]) (hsN := jpA_3619) (c1 := 0) (s1 := 0) (c2 := 0) (s2 := 0) (by decide +kernel) ?_ (by omega) (by omega)
  refine jT_iald (x := 0) (a := 1) (j := 57) (fs := []) (X := jS0) (by rfl) (by rfl) (by rfl) (by rfl) (by decide +kernel) ?_
  refine jT_eq (LN := [(9, (0, 0)), (7, (1, 1)), (5, (1, 1)), (0, (4, 0)), (1, (4, 1)), (2, (0, 57)), (3, (1, (-1)))]) (stN := [(0, 0), (1, (-1)), (1, 1), (0, 0), (4, 7)]) (hsN := jpA_3619) rfl rfl rfl ?_
  refine jT_advK 30 (pcN := 65) (LN := [(9, (0, 1)), (7, (1, 1)), (5, (1, 1)), (0, (4, 0)), (1, (4, 1)), (2, (0, 57)), (3, (1, (-1)))]) (stN := [(0, 58), (4, 1), (1, (-1)), (1, 0), (0, 1), (4, 7)]) (hsN := jpA_3619) (c1 := 0) (s1 := 0) (c2 := 0) (s2 := 0) (by decide +kernel) ?_ (by omega) (by omega)
  refine jT_iald (x := 0) (a := 1) (j := 58) (fs := []) (X := jS0) (by rfl) (by rfl) (by rfl) (by rfl) (by decide +kernel) ?_
  refine jT_eq (LN := [(9, (0, 1)), (7, (1, 1)), (5, (1, 1)), (0, (4, 0)), (1, (4, 1)), (2, (0, 57)), (3, (1, (-1)))]) (stN := [(0, 0), (1, (-1)), (1, 0), (0, 1), (4, 7)]) (hsN := jpA_3619) rfl rfl rfl ?_
  refine jT_advK 30 (pcN := 65) (LN := [(9, (0, 2)), (7, (1, 1)), (5, (1, 1)), (0, (4, 0)), (1, (4, 1)), (2, (0, 57)), (3, (1, (-1)))]) (stN := [(0, 59), (4, 1), (1, (-1)), (1, 0), (0, 2), (4, 7)]) (hsN := jpA_3619) (c1 := 0) (s1 := 0) (c2 := 0) (s2 := 0) (by decide +kernel) ?_ (by omega) (by omega)
  refine jT_iald (x := 0) (a := 1) (j := 59) (fs := []) (X := jS0) (by rfl) (by rfl) (by rfl) (by rfl) (by decide +kernel) ?_
  refine jT_eq (LN := [(9, (0, 2)), (7, (1, 1)), (5, (1, 1)), (0, (4, 0)), (1, (4, 1)), (2, (0, 57)), (3, (1, (-1)))]) (stN := [(0, 0), (1, (-1)), (1, 0), (0, 2), (4, 7)]) (hsN := jpA_3619) rfl rfl rfl ?_
  refine jT_advK 30 (pcN := 65) (LN := [(9, (0, 3)), (7, (1, 1)), (5, (1, 1)), (0, (4, 0)), (1, (4, 1)), (2, (0, 57)), (3, (1, (-1)))]) (stN := [(0, 60), (4, 1), (1, (-1)), (1, 0), (0, 3), (4, 7)]) (hsN := jpA_3619) (c1 := 0) (s1 := 0) (c2 := 0) (s2 := 0) (by decide +kernel) ?_ (by omega) (by omega)
  refine jT_iald (x := 0) (a := 1) (j := 60) (fs := []) (X := jS0) (by rfl) (by rfl) (by rfl) (by rfl) (by decide +kernel) ?_
  refine jT_eq (LN := [(9, (0, 3)), (7, (1, 1)), (5, (1, 1)), (0, (4, 0)), (1, (4, 1)), (2, (0, 57)), (3, (1, (-1)))]) (stN := [(0, 0), (1, (-1)), (1, 0), (0, 3), (4, 7)]) (hsN := jpA_3619) rfl rfl rfl ?_
  refine jT_advK 30 (pcN := 65) (LN := [(9, (0, 4)), (7, (1, 1)), (5, (1, 1)), (0, (4, 0)), (1, (4, 1)), (2, (0, 57)), (3, (1, (-1)))]) (stN := [(0, 61), (4, 1), (1, (-1)), (1, 0), (0, 4), (4, 7)]) (hsN := jpA_3619) (c1 := 0) (s1 := 0) (c2 := 0) (s2 := 0) (by decide +kernel) ?_ (by omega) (by omega)
  refine jT_iald (x := 0) (a := 1) (j := 61) (fs := []) (X := jS0) (by rfl) (by rfl) (by rfl) (by rfl) (by decide +kernel) ?_
  refine jT_eq (LN := [(9, (0, 4)), (7, (1, 1)), (5, (1, 1)), (0, (4, 0)), (1, (4, 1)), (2, (0, 57)), (3, (1, (-1)))]) (stN := [(0, 0), (1, (-1)), (1, 0), (0, 4), (4, 7)]) (hsN := jpA_3619) rfl rfl rfl ?_
  refine jT_advK 30 (pcN := 65) (LN := [(9, (0, 5)), (7, (1, 1)), (5, (1, 1)), (0, (4, 0)), (1, (4, 1)), (2, (0, 57)), (3, (1, (-1)))]) (stN := [(0, 62), (4, 1), (1, (-1)), (1, 0), (0, 5), (4, 7)]) (hsN := jpA_3619) (c1 := 0) (s1 := 0) (c2 := 0) (s2 := 0) (by decide +kernel) ?_ (by omega) (by omega)
  refine jT_iald (x := 0) (a := 1) (j := 62) (fs := []) (X := jS0) (by rfl) (by rfl) (by rfl) (by rfl) (by decide +kernel) ?_
  refine jT_eq (LN := [(9, (0, 5)), (7, (1, 1)), (5, (1, 1)), (0, (4, 0)), (1, (4, 1)), (2, (0, 57)), (3, (1, (-1)))]) (stN := [(0, 0), (1, (-1)), (1, 0), (0, 5), (4, 7)]) (hsN := jpA_3619) rfl rfl rfl ?_
  refine jT_advK 17 (pcN := 89) (LN := [(9, (0, 6)), (7, (1, 1)), (5, (1, 1)), (0, (4, 0)), (1, (4, 1)), (2, (0, 57)), (3, (1, (-1)))]) (stN := [(4, 0)]) (hsN := jpA_3619) (c1 := 0) (s1 := 0) (c2 := 0) (s2 := 0) (by decide +kernel) ?_ (by omega) (by omega)
  refine jT_fR [0, 1, 2, 3, 4, 5, 6, 7, 8, 9, 10, 11, 12, 13, 14, 15] 16 (y := 199) (pcN := 92) (dC := 2) (bc1 := 0) (bc2 := 0) (c1 := 0) (c2 := 0) (as := [(4, 0)]) (asC := [(4, 0)]) (LN := [(9, (0, 6)), (7, (1, 1)), (5, (1, 1)), (0, (4, 0)), (1, (4, 1)), (2, (0, 57)), (3, (1, (-1)))]) (stN := []) (hsC := jpA_3618) (v := (9, 0)) (st2 := []) (jA_199_907 (d := 0)) (by rfl) (by rfl) (by decide +kernel) (by rfl) (by rfl) (by omega) (by omega) (by omega) (by omega) rfl ?_
  exact jT_ret rfl (by decide) (by show 16 ≤ 16; decide) (by omega) (by omega) ⟨rfl, rfl, rfl⟩
theorem jA_280_909 {xs : List Int} {d : Nat} : jT xs (d + 4) 280 16 0 [(0, (4, 0)), (1, (0, 0)), (2, (0, 0))] [] jpA_130 0 0 (fun k v hsN => k = 0 ∧ v = (9, 0) ∧ hsN = jpA_3619) := by
  refine jT_advK 5 (pcN := 5) (LN := [(0, (4, 0)), (1, (0, 0)), (2, (0, 0))]) (stN := [(0, 0), (4, 0), (0, 1)]) (hsN := jpA_130) (c1 := 0) (s1 := 0) (c2 := 0) (s2 := 0) (by decide +kernel) ?_ (by omega) (by omega)
  refine jT_fR [0, 1, 2, 3, 4, 5, 6, 7, 8, 9, 10, 11, 12, 13, 14, 15] 16 (y := 245) (pcN := 8) (dC := 0) (bc1 := 0) (bc2 := 0) (c1 := 0) (c2 := 0) (as := [(4, 0), (0, 0)]) (asC := [(4, 0), (0, 0)]) (LN := [(0, (4, 0)), (1, (0, 0)), (2, (0, 0))]) (stN := [(0, 1)]) (hsC := jpA_1519) (v := (0, 1)) (st2 := [(0, 1), (0, 1)]) (jA_245_339 (d := 0)) (by rfl) (by rfl) (by decide +kernel) (by rfl) (by rfl) (by omega) (by omega) (by omega) (by omega) rfl ?_
  refine jT_advK 7 (pcN := 17) (LN := [(3, (0, 0)), (0, (4, 0)), (1, (0, 0)), (2, (0, 0))]) (stN := [(0, 0), (0, 0), (4, 1), (4, 0)]) (hsN := jpA_130) (c1 := 0) (s1 := 0) (c2 := 0) (s2 := 0) (by decide +kernel) ?_ (by omega) (by omega)
  refine jT_fR [] 16 (y := 242) (pcN := 20) (dC := 0) (bc1 := 0) (bc2 := 0) (c1 := 0) (c2 := 0) (as := [(0, 0), (0, 0)]) (asC := [(0, 0), (0, 0)]) (LN := [(3, (0, 0)), (0, (4, 0)), (1, (0, 0)), (2, (0, 0))]) (stN := [(4, 1), (4, 0)]) (hsC := []) (v := (0, 57)) (st2 := [(0, 57), (4, 1), (4, 0)]) (jA_242_340 (d := 0)) (by rfl) (by rfl) (by decide +kernel) (by rfl) (by rfl) (by omega) (by omega) (by omega) (by omega) rfl ?_
  refine jT_fR [0, 1, 2, 3, 4, 5, 6, 7, 8, 9, 10, 11, 12, 13, 14, 15] 16 (y := 203) (pcN := 23) (dC := 0) (bc1 := 0) (bc2 := 0) (c1 := 0) (c2 := 0) (as := [(4, 0), (4, 1), (0, 57)]) (asC := [(4, 0), (4, 1), (0, 57)]) (LN := [(3, (0, 0)), (0, (4, 0)), (1, (0, 0)), (2, (0, 0))]) (stN := []) (hsC := jpA_130) (v := (9, 0)) (st2 := []) (jA_203_344 (d := 0)) (by rfl) (by rfl) (by decide +kernel) (by rfl) (by rfl) (by omega) (by omega) (by omega) (by omega) rfl ?_
  refine jT_advK 16 (pcN := 47) (LN := [(3, (0, 0)), (0, (4, 0)), (1, (0, 0)), (2, (0, 0))]) (stN := [(0, 0), (0, 0), (4, 1), (4, 0)]) (hsN := jpA_3619) (c1 := 0) (s1 := 0) (c2 := 0) (s2 := 0) (by decide +kernel) ?_ (by omega) (by omega)
  refine jT_fR [] 16 (y := 242) (pcN := 50) (dC := 0) (bc1 := 0) (bc2 := 0) (c1 := 0) (c2 := 0) (as := [(0, 0), (0, 0)]) (asC := [(0, 0), (0, 0)]) (LN := [(3, (0, 0)), (0, (4, 0)), (1, (0, 0)), (2, (0, 0))]) (stN := [(4, 1), (4, 0)]) (hsC := []) (v := (0, 57)) (st2 := [(0, 57), (4, 1), (4, 0)]) (jA_242_340 (d := 0)) (by rfl) (by rfl) (by decide +kernel) (by rfl) (by rfl) (by omega) (by omega) (by omega) (by omega) rfl ?_
  refine jT_advK 1 (pcN := 53) (LN := [(3, (0, 0)), (0, (4, 0)), (1, (0, 0)), (2, (0, 0))]) (stN := [(1, (-1)), (0, 57), (4, 1), (4, 0)]) (hsN := jpA_3619) (c1 := 0) (s1 := 0) (c2 := 0) (s2 := 0) (by decide +kernel) ?_ (by omega) (by omega)
  refine jT_fR [0, 1, 2, 3, 4, 5, 6, 7, 8, 9, 10, 11, 12, 13, 14, 15] 16 (y := 204) (pcN := 56) (dC := 3) (bc1 := 0) (bc2 := 0) (c1 := 0) (c2 := 0) (as := [(4, 0), (4, 1), (0, 57), (1, (-1))]) (asC := [(4, 0), (4, 1), (0, 57), (1, (-1))]) (LN := [(3, (0, 0)), (0, (4, 0)), (1, (0, 0)), (2, (0, 0))]) (stN := []) (hsC := jpA_3619) (v := (9, 0)) (st2 := []) (jA_204_908 (d := 0)) (by rfl) (by rfl) (by decide +kernel) (by rfl) (by rfl) (by omega) (by omega) (by omega) (by omega) rfl ?_
  exact jT_ret rfl (by decide) (by show 16 ≤ 16; decide) (by omega) (by omega) ⟨rfl, rfl, rfl⟩
def jpA_3620 : List JC := [jzA_21, jgh, jgh, jgh, jgh, jgh, jgh, (101, [], [1, 0, 0, 0, 0, 0]), jgh, jgh, jgh, jgh, jgh, jgh, jgh, jgh, (101, [], [1200, 0, 0, 0, 0, 0])]
theorem jA_218_910 {xs : List Int} {d : Nat} : jT xs d 218 16 0 [(0, (4, 0)), (1, (1, 1200))] [] jpA_3618 1 6 (fun k v hsN => k = 0 ∧ v = (4, 16) ∧ hsN = jpA_3618 ++ [(101, [], [1200, 0, 0, 0, 0, 0])]) := by
  refine jT_advK 93 (pcN := 35) (LN := [(4, (0, 6)), (3, (4, 16)), (0, (4, 0)), (1, (1, 1200))]) (stN := [(4, 16)]) (hsN := jpA_3620) (c1 := 1) (s1 := 6) (c2 := 0) (s2 := 0) (by decide +kernel) ?_ (by omega) (by omega)
  exact jT_ret rfl (by decide) (by show 16 ≤ 17; decide) (by omega) (by omega) ⟨rfl, rfl, rfl⟩
theorem jA_211_911 {xs : List Int} {d : Nat} : jT xs d 211 1 0 [(0, (4, 0))] [] [(101, [], [2401, 0, 0, 0, 0, 0])] 0 0 (fun k v hsN => k = 0 ∧ v = (3, 4657498269910302720) ∧ hsN = [(101, [], [2401, 0, 0, 0, 0, 0])] ++ []) := by
  refine jT_advK 3 (pcN := 3) (LN := [(0, (4, 0))]) (stN := [(1, 2401)]) (hsN := [(101, [], [2401, 0, 0, 0, 0, 0])]) (c1 := 0) (s1 := 0) (c2 := 0) (s2 := 0) (by decide +kernel) ?_ (by omega) (by omega)
  refine jT_l2d (x := 2401) (z := 4657498269910302720) (by rfl) (by rfl) (by decide +kernel) ?_
  refine jT_advK 4 (pcN := 10) (LN := [(0, (4, 0))]) (stN := [(1, 0), (3, 4609816855700290920), (3, 4657498269910302720)]) (hsN := [(101, [], [2401, 0, 0, 0, 0, 0])]) (c1 := 0) (s1 := 0) (c2 := 0) (s2 := 0) (by decide +kernel) ?_ (by omega) (by omega)
  refine jT_l2d (x := 0) (z := 0) (by rfl) (by rfl) (by decide +kernel) ?_
  refine jT_dmul (x := 4609816855700290920) (y := 0) (z := 0) (by rfl) (by rfl) (by decide +kernel) ?_
  refine jT_dadd (x := 4657498269910302720) (y := 0) (z := 4657498269910302720) (by rfl) (by rfl) (by decide +kernel) ?_
  refine jT_advK 4 (pcN := 19) (LN := [(0, (4, 0))]) (stN := [(1, 0), (3, 4612410936051475313), (3, 4657498269910302720)]) (hsN := [(101, [], [2401, 0, 0, 0, 0, 0])]) (c1 := 0) (s1 := 0) (c2 := 0) (s2 := 0) (by decide +kernel) ?_ (by omega) (by omega)
  refine jT_l2d (x := 0) (z := 0) (by rfl) (by rfl) (by decide +kernel) ?_
  refine jT_dmul (x := 4612410936051475313) (y := 0) (z := 0) (by rfl) (by rfl) (by decide +kernel) ?_
  refine jT_dadd (x := 4657498269910302720) (y := 0) (z := 4657498269910302720) (by rfl) (by rfl) (by decide +kernel) ?_
  refine jT_advK 4 (pcN := 28) (LN := [(0, (4, 0))]) (stN := [(1, 0), (3, 4613504020090455085), (3, 4657498269910302720)]) (hsN := [(101, [], [2401, 0, 0, 0, 0, 0])]) (c1 := 0) (s1 := 0) (c2 := 0) (s2 := 0) (by decide +kernel) ?_ (by omega) (by omega)
  refine jT_l2d (x := 0) (z := 0) (by rfl) (by rfl) (by decide +kernel) ?_
  refine jT_dmul (x := 4613504020090455085) (y := 0) (z := 0) (by rfl) (by rfl) (by decide +kernel) ?_
  refine jT_dadd (x := 4657498269910302720) (y := 0) (z := 4657498269910302720) (by rfl) (by rfl) (by decide +kernel) ?_
  refine jT_advK 4 (pcN := 37) (LN := [(0, (4, 0))]) (stN := [(1, 0), (3, 4614972366274321729), (3, 4657498269910302720)]) (hsN := [(101, [], [2401, 0, 0, 0, 0, 0])]) (c1 := 0) (s1 := 0) (c2 := 0) (s2 := 0) (by decide +kernel) ?_ (by omega) (by omega)
  refine jT_l2d (x := 0) (z := 0) (by rfl) (by rfl) (by decide +kernel) ?_
  refine jT_dmul (x := 4614972366274321729) (y := 0) (z := 0) (by rfl) (by rfl) (by decide +kernel) ?_
  refine jT_dadd (x := 4657498269910302720) (y := 0) (z := 4657498269910302720) (by rfl) (by rfl) (by decide +kernel) ?_
  refine jT_advK 4 (pcN := 46) (LN := [(0, (4, 0))]) (stN := [(1, 0), (3, 4615515068267881011), (3, 4657498269910302720)]) (hsN := [(101, [], [2401, 0, 0, 0, 0, 0])]) (c1 := 0) (s1 := 0) (c2 := 0) (s2 := 0) (by decide +kernel) ?_ (by omega) (by omega)
  refine jT_l2d (x := 0) (z := 0) (by rfl) (by rfl) (by decide +kernel) ?_
  refine jT_dmul (x := 4615515068267881011) (y := 0) (z := 0) (by rfl) (by rfl) (by decide +kernel) ?_
  refine jT_dadd (x := 4657498269910302720) (y := 0) (z := 4657498269910302720) (by rfl) (by rfl) (by decide +kernel) ?_
  exact jT_ret rfl (by decide) (by show 1 ≤ 1; decide) (by omega) (by omega) ⟨rfl, rfl, rfl⟩
def jpA_3621 : List JC := [jzA_670, (101, [], [2401, 0, 0, 0, 0, 0]), jgh, jgh, jgh, jgh, jgh, (130, [], [17, 18, 19, 20, 21, 22]), jgh, jgh, jgh, jgh, jgh, jgh, jgh, jgh, jgh, (100, [], (jenc (jlg 0))), jgh, jgh, jgh, jgh, jgh, (101, [], [1, 0, 0, 0, 0, 0])]
def jpA_3622 : List JC := [jzA_670, (101, [], [2401, 0, 0, 0, 0, 0]), jgh, jgh, jgh, jgh, jgh, (130, [], [17, 18, 19, 20, 21, 22]), jgh, jgh, jgh, jgh, jgh, jgh, jgh, jgh, jgh, (100, [], (jenc (jlg 0))), jgh, jgh, jgh, jgh, jgh, (101, [], [1, 0, 0, 0, 0, 0]), (100, [], (jenc 0)), (100, [], (jenc 1)), (100, [], (jenc (1 * (jlg 0))))]
def jpA_3623 : List JC := [jzA_670, (101, [], [2401, 0, 0, 0, 0, 0]), jgh, jgh, jgh, jgh, jgh, (130, [], [17, 18, 19, 20, 21, 22]), jgh, jgh, jgh, jgh, jgh, jgh, jgh, jgh, jgh, (100, [], (jenc (jlg 0))), jgh, jgh, jgh, jgh, jgh]
theorem jA_212_912 {xs : List Int} {d : Nat} : jT xs (d + 4) 212 23 0 [(0, (4, 0)), (1, (4, 1)), (2, (1, 2400))] [] jpA_3623 4 174 (fun k v hsN => k = 0 ∧ v = (0, 1) ∧ hsN = jpA_3623 ++ jpA_832) := by
  refine jT_advK 18 (pcN := 27) (LN := [(4, (4, 23)), (0, (4, 0)), (1, (4, 1)), (2, (1, 2400))]) (stN := [(4, 23), (4, 0)]) (hsN := jpA_3621) (c1 := 1) (s1 := 6) (c2 := 3) (s2 := 168) (by decide +kernel) ?_ (by omega) (by omega)
  refine jT_fA [0, 23, 2, 3, 4, 5, 6, 7, 8, 9, 10, 11, 12, 13, 14, 15, 16, 17, 18, 19, 20, 21, 22] 24 (y := 213) (pcN := 30) (dC := 3) (bc1 := 3) (bc2 := 168) (c1 := 0) (c2 := 0) (as := [(4, 0), (4, 23)]) (asC := [(4, 0), (4, 1)]) (LN := [(4, (4, 23)), (0, (4, 0)), (1, (4, 1)), (2, (1, 2400))]) (stN := []) (hsC := jpA_829) (ex := [(100, [], (jenc 0)), (100, [], (jenc 1)), (100, [], (jenc (1 * (jlg 0))))]) (v := (0, 1)) (st2 := [(0, 1)]) (hs2 := jpA_3622) (jA_213_188 (d := 0)) (by rfl) (by rfl) (by decide +kernel) (by rfl) (by rfl) (by omega) (by omega) (by omega) (by omega) rfl (by decide +kernel) ?_
  exact jT_ret rfl (by decide) (by show 23 ≤ 27; decide) (by omega) (by omega) ⟨rfl, rfl, rfl⟩
def jpA_3624 : List JC := [jzA_670, (101, [], [2401, 0, 0, 0, 0, 0]), jgh, jgh, jgh, jgh, jgh, (130, [], [17, 18, 19, 20, 21, 22]), jgh, jgh, jgh, jgh, jgh, jgh, jgh, jgh, jgh, (100, [], (jenc (jlg 0))), jgh, jgh, jgh, jgh, jgh, (101, [], [(-1), 0, 0, 0, 0, 0])]
def jpA_3625 : List JC := [jzA_670, (101, [], [2401, 0, 0, 0, 0, 0]), jgh, jgh, jgh, jgh, jgh, (130, [], [17, 18, 19, 20, 21, 22]), jgh, jgh, jgh, jgh, jgh, jgh, jgh, jgh, jgh, (100, [], (jenc (jlg 0))), jgh, jgh, jgh, jgh, jgh, (101, [], [(-1), 0, 0, 0, 0, 0]), (100, [], (jenc 0)), (100, [], (jenc (-1))), (100, [], (jenc ((-1) * (jlg 0))))]
theorem jA_212_913 {xs : List Int} {d : Nat} : jT xs (d + 4) 212 23 0 [(0, (4, 0)), (1, (4, 1)), (2, (1, 2402))] [] jpA_3623 4 174 (fun k v hsN => k = 0 ∧ v = (0, (-1)) ∧ hsN = jpA_3623 ++ jpA_680) := by
  refine jT_advK 18 (pcN := 27) (LN := [(4, (4, 23)), (0, (4, 0)), (1, (4, 1)), (2, (1, 2402))]) (stN := [(4, 23), (4, 0)]) (hsN := jpA_3624) (c1 := 1) (s1 := 6) (c2 := 3) (s2 := 168) (by decide +kernel) ?_ (by omega) (by omega)
  refine jT_fA [0, 23, 2, 3, 4, 5, 6, 7, 8, 9, 10, 11, 12, 13, 14, 15, 16, 17, 18, 19, 20, 21, 22] 24 (y := 213) (pcN := 30) (dC := 3) (bc1 := 3) (bc2 := 168) (c1 := 0) (c2 := 0) (as := [(4, 0), (4, 23)]) (asC := [(4, 0), (4, 1)]) (LN := [(4, (4, 23)), (0, (4, 0)), (1, (4, 1)), (2, (1, 2402))]) (stN := []) (hsC := jpA_675) (ex := [(100, [], (jenc 0)), (100, [], (jenc (-1))), (100, [], (jenc ((-1) * (jlg 0))))]) (v := (0, (-1))) (st2 := [(0, (-1))]) (hs2 := jpA_3625) (jA_213_156 (d := 0)) (by rfl) (by rfl) (by decide +kernel) (by rfl) (by rfl) (by omega) (by omega) (by omega) (by omega) rfl (by decide +kernel) ?_
  exact jT_ret rfl (by decide) (by show 23 ≤ 27; decide) (by omega) (by omega) ⟨rfl, rfl, rfl⟩
def jpA_3626 : List JC := [jzA_670, (101, [], [2401, 0, 0, 0, 0, 0]), jgh, jgh, jgh, jgh, jgh, (130, [], [17, 18, 19, 20, 21, 22]), jgh, jgh, jgh, jgh, jgh, jgh, jgh, jgh, jgh, (100, [], (jenc (jlg 0))), jgh, jgh, jgh, jgh, jgh, (101, [], [1, 0, 0, 0, 0, 0]), (100, [], (jenc 0)), (100, [], (jenc 1)), (100, [], (jenc (1 * (jlg 0)))), (101, [], [(-1), 0, 0, 0, 0, 0]), (100, [], (jenc 0)), (100, [], (jenc (-1))), (100, [], (jenc ((-1) * (jlg 0))))]
theorem jA_210_914 {xs : List Int} {d : Nat} : jT xs (d + 5) 210 23 0 [(0, (4, 0)), (1, (4, 1)), (2, (1, 2))] [] jpA_3623 8 348 (fun k v hsN => k = 0 ∧ v = (1, 1200) ∧ hsN = jpA_3623 ++ jpA_836) := by
  refine jT_advK 1 (pcN := 1) (LN := [(0, (4, 0)), (1, (4, 1)), (2, (1, 2))]) (stN := [(4, 1)]) (hsN := jpA_3623) (c1 := 0) (s1 := 0) (c2 := 8) (s2 := 348) (by decide +kernel) ?_ (by omega) (by omega)
  refine jT_fR [1] 23 (y := 211) (pcN := 4) (dC := 0) (bc1 := 0) (bc2 := 0) (c1 := 8) (c2 := 348) (as := [(4, 1)]) (asC := [(4, 0)]) (LN := [(0, (4, 0)), (1, (4, 1)), (2, (1, 2))]) (stN := []) (hsC := [(101, [], [2401, 0, 0, 0, 0, 0])]) (v := (3, 4657498269910302720)) (st2 := [(3, 4657498269910302720)]) (jA_211_911 (d := 0)) (by rfl) (by rfl) (by decide +kernel) (by rfl) (by rfl) (by omega) (by omega) (by omega) (by omega) rfl ?_
  refine jT_advK 1 (pcN := 5) (LN := [(0, (4, 0)), (1, (4, 1)), (2, (1, 2))]) (stN := [(1, 2), (3, 4657498269910302720)]) (hsN := jpA_3623) (c1 := 0) (s1 := 0) (c2 := 8) (s2 := 348) (by decide +kernel) ?_ (by omega) (by omega)
  refine jT_l2d (x := 2) (z := 4611686018427387904) (by rfl) (by rfl) (by decide +kernel) ?_
  refine jT_ddiv (x := 4657498269910302720) (y := 4611686018427387904) (z := 4652994670282932224) (by rfl) (by rfl) (by decide +kernel) ?_
  refine jT_d2l (x := 4652994670282932224) (z := 1200) (by rfl) (by rfl) (by decide +kernel) ?_
  refine jT_advK 6 (pcN := 16) (LN := [(4, (1, 1200)), (0, (4, 0)), (1, (4, 1)), (2, (1, 2))]) (stN := [(1, 2400), (4, 1), (4, 0)]) (hsN := jpA_3623) (c1 := 0) (s1 := 0) (c2 := 8) (s2 := 348) (by decide +kernel) ?_ (by omega) (by omega)
  refine jT_fA [0, 1, 2, 3, 4, 5, 6, 7, 8, 9, 10, 11, 12, 13, 14, 15, 16, 17, 18, 19, 20, 21, 22] 23 (y := 212) (pcN := 19) (dC := 4) (bc1 := 4) (bc2 := 174) (c1 := 4) (c2 := 174) (as := [(4, 0), (4, 1), (1, 2400)]) (asC := [(4, 0), (4, 1), (1, 2400)]) (LN := [(4, (1, 1200)), (0, (4, 0)), (1, (4, 1)), (2, (1, 2))]) (stN := []) (hsC := jpA_3623) (ex := jpA_832) (v := (0, 1)) (st2 := [(0, 1)]) (hs2 := jpA_3622) (jA_212_912 (d := 0)) (by rfl) (by rfl) (by decide +kernel) (by rfl) (by rfl) (by omega) (by omega) (by omega) (by omega) rfl (by decide +kernel) ?_
  refine jT_advK 8 (pcN := 39) (LN := [(4, (1, 1200)), (0, (4, 0)), (1, (4, 1)), (2, (1, 2))]) (stN := [(1, 2402), (4, 1), (4, 0)]) (hsN := jpA_3622) (c1 := 0) (s1 := 0) (c2 := 4) (s2 := 174) (by decide +kernel) ?_ (by omega) (by omega)
  refine jT_fA [0, 1, 2, 3, 4, 5, 6, 7, 8, 9, 10, 11, 12, 13, 14, 15, 16, 17, 18, 19, 20, 21, 22] 27 (y := 212) (pcN := 42) (dC := 4) (bc1 := 4) (bc2 := 174) (c1 := 0) (c2 := 0) (as := [(4, 0), (4, 1), (1, 2402)]) (asC := [(4, 0), (4, 1), (1, 2402)]) (LN := [(4, (1, 1200)), (0, (4, 0)), (1, (4, 1)), (2, (1, 2))]) (stN := []) (hsC := jpA_3623) (ex := jpA_680) (v := (0, (-1))) (st2 := [(0, (-1))]) (hs2 := jpA_3626) (jA_212_913 (d := 0)) (by rfl) (by rfl) (by decide +kernel) (by rfl) (by rfl) (by omega) (by omega) (by omega) (by omega) rfl (by decide +kernel) ?_
  refine jT_advK 2 (pcN := 56) (LN := [(4, (1, 1200)), (0, (4, 0)), (1, (4, 1)), (2, (1, 2))]) (stN := [(1, 1200)]) (hsN := jpA_3626) (c1 := 0) (s1 := 0) (c2 := 0) (s2 := 0) (by decide +kernel) ?_ (by omega) (by omega)
  exact jT_ret rfl (by decide) (by show 23 ≤ 31; decide) (by omega) (by omega) ⟨rfl, rfl, rfl⟩
def jpA_3627 : List JC := [jzA_670, (101, [], [1200, 0, 0, 0, 0, 0]), jgh, jgh, jgh, jgh, jgh, (130, [], [17, 18, 19, 20, 21, 22]), jgh, jgh, jgh, jgh, jgh, jgh, jgh, jgh, jgh, (100, [], (jenc (jlg 0))), jgh, jgh, jgh, jgh, jgh, (101, [], [2401, 0, 0, 0, 0, 0])]
def jpA_3628 : List JC := [jzA_670, (101, [], [1200, 0, 0, 0, 0, 0]), jgh, jgh, jgh, jgh, jgh, (130, [], [17, 18, 19, 20, 21, 22]), jgh, jgh, jgh, jgh, jgh, jgh, jgh, jgh, jgh, (100, [], (jenc (jlg 0))), jgh, jgh, jgh, jgh, jgh, (101, [], [2401, 0, 0, 0, 0, 0]), (101, [], [1, 0, 0, 0, 0, 0]), (100, [], (jenc 0)), (100, [], (jenc 1)), (100, [], (jenc (1 * (jlg 0)))), (101, [], [(-1), 0, 0, 0, 0, 0]), (100, [], (jenc 0)), (100, [], (jenc (-1))), (100, [], (jenc ((-1) * (jlg 0))))]
def jpA_3629 : List JC := [jzA_670, (101, [], [1200, 0, 0, 0, 0, 0]), jgh, jgh, jgh, jgh, jgh, (130, [], [17, 18, 19, 20, 21, 22]), jgh, jgh, jgh, jgh, jgh, jgh, jgh, jgh, jgh, (100, [], (jenc (jlg 0))), jgh, jgh, jgh, jgh, jgh]
def jpA_3630 : List JC := [(101, [], [2401, 0, 0, 0, 0, 0]), (101, [], [1, 0, 0, 0, 0, 0]), (100, [], (jenc 0)), (100, [], (jenc 1)), (100, [], (jenc (1 * (jlg 0)))), (101, [], [(-1), 0, 0, 0, 0, 0]), (100, [], (jenc 0)), (100, [], (jenc (-1))), (100, [], (jenc ((-1) * (jlg 0))))]
theorem jA_216_915 {xs : List Int} {d : Nat} : jT xs (d + 6) 216 23 0 [(0, (4, 0)), (1, (4, 1)), (2, (1, 1))] [] jpA_3629 9 354 (fun k v hsN => k = 0 ∧ v = (1, 1200) ∧ hsN = jpA_3629 ++ jpA_3630) := by
  refine jT_advK 98 (pcN := 51) (LN := [(5, (0, 6)), (4, (4, 23)), (0, (4, 0)), (1, (4, 1)), (2, (1, 1))]) (stN := [(1, 2), (4, 23), (4, 0)]) (hsN := jpA_3627) (c1 := 1) (s1 := 6) (c2 := 8) (s2 := 348) (by decide +kernel) ?_ (by omega) (by omega)
  refine jT_fA [0, 23, 2, 3, 4, 5, 6, 7, 8, 9, 10, 11, 12, 13, 14, 15, 16, 17, 18, 19, 20, 21, 22] 24 (y := 210) (pcN := 54) (dC := 5) (bc1 := 8) (bc2 := 348) (c1 := 0) (c2 := 0) (as := [(4, 0), (4, 23), (1, 2)]) (asC := [(4, 0), (4, 1), (1, 2)]) (LN := [(5, (0, 6)), (4, (4, 23)), (0, (4, 0)), (1, (4, 1)), (2, (1, 1))]) (stN := []) (hsC := jpA_3623) (ex := jpA_836) (v := (1, 1200)) (st2 := [(1, 1200)]) (hs2 := jpA_3628) (jA_210_914 (d := 0)) (by rfl) (by rfl) (by decide +kernel) (by rfl) (by rfl) (by omega) (by omega) (by omega) (by omega) rfl (by decide +kernel) ?_
  exact jT_ret rfl (by decide) (by show 23 ≤ 32; decide) (by omega) (by omega) ⟨rfl, rfl, rfl⟩
def jpA_3631 : List JC := [jzA_21, jgh, jgh, jgh, jgh, jgh, (130, [], [16, 17, 18, 19, 20, 21]), (101, [], [1, 0, 0, 0, 0, 0]), jgh, jgh, jgh, jgh, jgh, jgh, jgh, jgh, (100, [], (jenc (jlg 0))), jgh, jgh, jgh, jgh, jgh]
def jpA_3632 : List JC := [jzA_21, jgh, jgh, jgh, jgh, jgh, (130, [], [16, 17, 18, 19, 20, 21]), (101, [], [1, 0, 0, 0, 0, 0]), jgh, jgh, jgh, jgh, jgh, jgh, jgh, jgh, (100, [], (jenc (jlg 0))), jgh, jgh, jgh, jgh, jgh, (101, [], [1200, 0, 0, 0, 0, 0])]
def jpA_3633 : List JC := [jzA_21, jgh, jgh, jgh, jgh, jgh, (130, [], [16, 17, 18, 19, 20, 21]), (101, [], [1, 0, 0, 0, 0, 0]), jgh, jgh, jgh, jgh, jgh, jgh, jgh, jgh, (100, [], (jenc (jlg 0))), jgh, jgh, jgh, jgh, jgh, (101, [], [1200, 0, 0, 0, 0, 0]), (101, [], [2401, 0, 0, 0, 0, 0]), (101, [], [1, 0, 0, 0, 0, 0]), (100, [], (jenc 0)), (100, [], (jenc 1)), (100, [], (jenc (1 * (jlg 0)))), (101, [], [(-1), 0, 0, 0, 0, 0]), (100, [], (jenc 0)), (100, [], (jenc (-1))), (100, [], (jenc ((-1) * (jlg 0))))]
def jpA_3634 : List JC := [(101, [], [1200, 0, 0, 0, 0, 0]), (101, [], [2401, 0, 0, 0, 0, 0]), (101, [], [1, 0, 0, 0, 0, 0]), (100, [], (jenc 0)), (100, [], (jenc 1)), (100, [], (jenc (1 * (jlg 0)))), (101, [], [(-1), 0, 0, 0, 0, 0]), (100, [], (jenc 0)), (100, [], (jenc (-1))), (100, [], (jenc ((-1) * (jlg 0))))]
theorem jA_265_916 {xs : List Int} {d : Nat} : jT xs (d + 7) 265 22 0 [(0, (4, 0)), (1, (1, 1)), (3, (0, 2))] [] jpA_3631 10 360 (fun k v hsN => k = 0 ∧ v = (1, 1200) ∧ hsN = jpA_3631 ++ jpA_3634) := by
  refine jT_advK 4 (pcN := 6) (LN := [(0, (4, 0)), (1, (1, 1)), (3, (0, 2))]) (stN := [(1, 1200), (4, 0)]) (hsN := jpA_3631) (c1 := 0) (s1 := 0) (c2 := 10) (s2 := 360) (by decide +kernel) ?_ (by omega) (by omega)
  refine jT_fA [0, 1, 2, 3, 4, 5, 6, 7, 8, 9, 10, 11, 12, 13, 14, 15] 22 (y := 218) (pcN := 9) (dC := 0) (bc1 := 1) (bc2 := 6) (c1 := 9) (c2 := 354) (as := [(4, 0), (1, 1200)]) (asC := [(4, 0), (1, 1200)]) (LN := [(0, (4, 0)), (1, (1, 1)), (3, (0, 2))]) (stN := []) (hsC := jpA_3618) (ex := [(101, [], [1200, 0, 0, 0, 0, 0])]) (v := (4, 16)) (st2 := [(4, 22)]) (hs2 := jpA_3632) (jA_218_910 (d := 0)) (by rfl) (by rfl) (by decide +kernel) (by rfl) (by rfl) (by omega) (by omega) (by omega) (by omega) rfl (by decide +kernel) ?_
  refine jT_advK 8 (pcN := 23) (LN := [(4, (4, 22)), (0, (4, 0)), (1, (1, 1)), (3, (0, 2))]) (stN := [(1, 1), (4, 22), (4, 0)]) (hsN := jpA_3632) (c1 := 0) (s1 := 0) (c2 := 9) (s2 := 354) (by decide +kernel) ?_ (by omega) (by omega)
  refine jT_fA [0, 22, 1, 2, 3, 4, 5, 6, 7, 8, 9, 10, 11, 12, 13, 14, 15, 16, 17, 18, 19, 20, 21] 23 (y := 216) (pcN := 26) (dC := 6) (bc1 := 9) (bc2 := 354) (c1 := 0) (c2 := 0) (as := [(4, 0), (4, 22), (1, 1)]) (asC := [(4, 0), (4, 1), (1, 1)]) (LN := [(4, (4, 22)), (0, (4, 0)), (1, (1, 1)), (3, (0, 2))]) (stN := []) (hsC := jpA_3629) (ex := jpA_3630) (v := (1, 1200)) (st2 := [(1, 1200)]) (hs2 := jpA_3633) (jA_216_915 (d := 0)) (by rfl) (by rfl) (by decide +kernel) (by rfl) (by rfl) (by omega) (by omega) (by omega) (by omega) rfl (by decide +kernel) ?_
  exact jT_ret rfl (by decide) (by show 22 ≤ 32; decide) (by omega) (by omega) ⟨rfl, rfl, rfl⟩
def jpA_3635 : List JC := [jzA_21, (100, [], jS0), jgh, jgh, jgh, jgh, (130, [], [16, 17, 18, 19, 20, 21]), (101, [], [1, 0, 0, 0, 0, 0]), jgh, jgh, jgh, jgh, jgh, jgh, jgh, jgh, (100, [], (jenc (jlg 0))), jgh, jgh, jgh, jgh, jgh]
def jpA_3636 : List JC := [jzA_21, (100, [], jS0), jgh, jgh, jgh, jgh, (130, [], [16, 17, 18, 19, 20, 21]), (101, [], [1, 0, 0, 0, 0, 0]), jgh, jgh, jgh, jgh, jgh, jgh, jgh, jgh, (100, [], (jenc (jlg 0))), jgh, jgh, jgh, jgh, jgh, (101, [], [1200, 0, 0, 0, 0, 0]), (101, [], [2401, 0, 0, 0, 0, 0]), (101, [], [1, 0, 0, 0, 0, 0]), (100, [], (jenc 0)), (100, [], (jenc 1)), (100, [], (jenc (1 * (jlg 0)))), (101, [], [(-1), 0, 0, 0, 0, 0]), (100, [], (jenc 0)), (100, [], (jenc (-1))), (100, [], (jenc ((-1) * (jlg 0))))]
theorem jA_279_917 {xs : List Int} {d : Nat} : jT xs (d + 8) 279 22 0 [(0, (4, 0)), (1, (0, 0)), (2, (0, 0)), (3, (0, 1))] [] jpA_1695 10 360 (fun k v hsN => k = 0 ∧ v = (0, 1200) ∧ hsN = jpA_3636) := by
  refine jT_advK 2 (pcN := 2) (LN := [(0, (4, 0)), (1, (0, 0)), (2, (0, 0)), (3, (0, 1))]) (stN := [(0, 0), (4, 0)]) (hsN := jpA_1695) (c1 := 0) (s1 := 0) (c2 := 10) (s2 := 360) (by decide +kernel) ?_ (by omega) (by omega)
  refine jT_fR [] 22 (y := 238) (pcN := 5) (dC := 1) (bc1 := 0) (bc2 := 0) (c1 := 10) (c2 := 360) (as := [(0, 0)]) (asC := [(0, 0)]) (LN := [(0, (4, 0)), (1, (0, 0)), (2, (0, 0)), (3, (0, 1))]) (stN := [(4, 0)]) (hsC := []) (v := (0, 1)) (st2 := [(0, 1), (4, 0)]) (jA_238_338 (d := 0)) (by rfl) (by rfl) (by decide +kernel) (by rfl) (by rfl) (by omega) (by omega) (by omega) (by omega) rfl ?_
  refine jT_fR [0, 1, 2, 3, 4, 5, 6, 7, 8, 9, 10, 11, 12, 13, 14, 15] 22 (y := 190) (pcN := 8) (dC := 1) (bc1 := 0) (bc2 := 0) (c1 := 10) (c2 := 360) (as := [(4, 0), (0, 1)]) (asC := [(4, 0), (0, 1)]) (LN := [(0, (4, 0)), (1, (0, 0)), (2, (0, 0)), (3, (0, 1))]) (stN := []) (hsC := jpA_22) (v := (0, 0)) (st2 := [(0, 0)]) (jA_190_39 (d := 0)) (by rfl) (by rfl) (by decide +kernel) (by rfl) (by rfl) (by omega) (by omega) (by omega) (by omega) rfl ?_
  refine jT_advK 5 (pcN := 15) (LN := [(0, (4, 0)), (1, (0, 0)), (2, (0, 0)), (3, (0, 1))]) (stN := [(0, 0), (0, 0), (4, 0), (4, 0)]) (hsN := jpA_1695) (c1 := 0) (s1 := 0) (c2 := 10) (s2 := 360) (by decide +kernel) ?_ (by omega) (by omega)
  refine jT_fR [0, 1, 2, 3, 4, 5, 6, 7, 8, 9, 10, 11, 12, 13, 14, 15] 22 (y := 247) (pcN := 18) (dC := 1) (bc1 := 0) (bc2 := 0) (c1 := 10) (c2 := 360) (as := [(4, 0), (0, 0), (0, 0)]) (asC := [(4, 0), (0, 0), (0, 0)]) (LN := [(0, (4, 0)), (1, (0, 0)), (2, (0, 0)), (3, (0, 1))]) (stN := [(4, 0)]) (hsC := jpA_1519) (v := (0, 1)) (st2 := [(0, 1), (4, 0)]) (jA_247_449 (d := 0)) (by rfl) (by rfl) (by decide +kernel) (by rfl) (by rfl) (by omega) (by omega) (by omega) (by omega) rfl ?_
  refine jT_advK 1 (pcN := 19) (LN := [(0, (4, 0)), (1, (0, 0)), (2, (0, 0)), (3, (0, 1))]) (stN := [(0, 1), (0, 1), (4, 0)]) (hsN := jpA_1695) (c1 := 0) (s1 := 0) (c2 := 10) (s2 := 360) (by decide +kernel) ?_ (by omega) (by omega)
  refine jT_fR [0] 22 (y := 191) (pcN := 22) (dC := 0) (bc1 := 0) (bc2 := 0) (c1 := 10) (c2 := 360) (as := [(4, 0), (0, 1), (0, 1)]) (asC := [(4, 0), (0, 1), (0, 1)]) (LN := [(0, (4, 0)), (1, (0, 0)), (2, (0, 0)), (3, (0, 1))]) (stN := []) (hsC := [jgh]) (v := (0, 0)) (st2 := [(0, 0)]) (jA_191_38 (d := 0)) (by rfl) (by rfl) (by decide +kernel) (by rfl) (by rfl) (by omega) (by omega) (by omega) (by omega) rfl ?_
  refine jT_advK 6 (pcN := 34) (LN := [(0, (4, 0)), (1, (0, 0)), (2, (0, 0)), (3, (0, 1))]) (stN := [(0, 0), (0, 0), (4, 0)]) (hsN := jpA_1695) (c1 := 0) (s1 := 0) (c2 := 10) (s2 := 360) (by decide +kernel) ?_ (by omega) (by omega)
  refine jT_fB [0, 1, 2, 3, 4, 5, 6, 7, 8, 9, 10, 11, 12, 13, 14, 15] 22 (y := 280) (pcN := 37) (dC := 4) (bc1 := 0) (bc2 := 0) (c1 := 10) (c2 := 360) (as := [(4, 0), (0, 0), (0, 0)]) (asC := [(4, 0), (0, 0), (0, 0)]) (LN := [(0, (4, 0)), (1, (0, 0)), (2, (0, 0)), (3, (0, 1))]) (stN := []) (hsC := jpA_130) (hsD := jpA_3619) (v := (9, 0)) (st2 := []) (hs2 := jpA_3635) (jA_280_909 (d := 0)) (by rfl) (by rfl) (by decide +kernel) (by rfl) (by rfl) (by omega) (by omega) (by omega) (by omega) rfl (by decide +kernel) ?_
  refine jT_advK 4 (pcN := 56) (LN := [(0, (4, 0)), (1, (0, 0)), (2, (0, 0)), (3, (0, 1))]) (stN := [(0, 2), (1, 1), (4, 0)]) (hsN := jpA_3635) (c1 := 0) (s1 := 0) (c2 := 10) (s2 := 360) (by decide +kernel) ?_ (by omega) (by omega)
  refine jT_fA [0, 1, 2, 3, 4, 5, 6, 7, 8, 9, 10, 11, 12, 13, 14, 15, 16, 17, 18, 19, 20, 21] 22 (y := 265) (pcN := 59) (dC := 7) (bc1 := 10) (bc2 := 360) (c1 := 0) (c2 := 0) (as := [(4, 0), (1, 1), (0, 2)]) (asC := [(4, 0), (1, 1), (0, 2)]) (LN := [(0, (4, 0)), (1, (0, 0)), (2, (0, 0)), (3, (0, 1))]) (stN := []) (hsC := jpA_3631) (ex := jpA_3634) (v := (1, 1200)) (st2 := [(1, 1200)]) (hs2 := jpA_3636) (jA_265_916 (d := 0)) (by rfl) (by rfl) (by decide +kernel) (by rfl) (by rfl) (by omega) (by omega) (by omega) (by omega) rfl (by decide +kernel) ?_
  refine jT_advK 1 (pcN := 60) (LN := [(0, (4, 0)), (1, (0, 0)), (2, (0, 0)), (3, (0, 1))]) (stN := [(0, 1200)]) (hsN := jpA_3636) (c1 := 0) (s1 := 0) (c2 := 0) (s2 := 0) (by decide +kernel) ?_ (by omega) (by omega)
  exact jT_ret rfl (by decide) (by show 22 ≤ 32; decide) (by omega) (by omega) ⟨rfl, rfl, rfl⟩
theorem jA_149_918 {xs : List Int} {d : Nat} {x2 : Int} (h_x2 : 1 ≤ x2 ∧ x2 ≤ 2147483647) : jT xs (d + 1) 149 23 0 [(0, (4, 0)), (1, (0, 0)), (2, (0, x2)), (3, (0, 1))] [] jpA_1805 1 6 (fun k v hsN => k = 1 ∧ v = (0, 0) ∧ hsN = jpA_1805 ++ []) := by
  refine jT_xaload_n (v := (4, 0)) (pcN := 1) jI_149_0 rfl rfl rfl ?_
  refine jT_xiload_n (v := (0, 0)) (pcN := 2) jI_149_1 rfl rfl rfl ?_
  refine jT_xiconst (k := 4) (pcN := 3) jI_149_2 rfl ?_
  refine jT_fR [0] 23 (y := 115) (pcN := 6) (dC := 0) (bc1 := 0) (bc2 := 0) (c1 := 1) (c2 := 6) (as := [(4, 0), (0, 0), (0, 4)]) (asC := [(4, 0), (0, 0), (0, 4)]) (LN := [(0, (4, 0)), (1, (0, 0)), (2, (0, x2)), (3, (0, 1))]) (stN := []) (hsC := [jgh]) (v := (9, 0)) (st2 := []) (jA_115_321 (d := 0)) (by rfl) (by rfl) (by decide +kernel) (by rfl) (by rfl) (by omega) (by omega) (by omega) (by omega) rfl ?_
  refine jT_xaload_n (v := (4, 0)) (pcN := 7) jI_149_6 rfl rfl rfl ?_
  refine jT_xgetf (a := 0) (t := 1) (ci := 13) (fi := 11) (c := jzA_5) (v := (4, 11)) (pcN := 10) jI_149_7 rfl rfl rfl rfl rfl rfl rfl ?_
  refine jT_xiload_n (v := (0, 0)) (pcN := 11) jI_149_10 rfl rfl rfl ?_
  refine jT_fR [11, 12, 13, 14, 15, 16, 17, 18, 19, 20] 23 (y := 56) (pcN := 14) (dC := 0) (bc1 := 0) (bc2 := 0) (c1 := 1) (c2 := 6) (as := [(4, 11), (0, 0)]) (asC := [(4, 0), (0, 0)]) (LN := [(0, (4, 0)), (1, (0, 0)), (2, (0, x2)), (3, (0, 1))]) (stN := []) (hsC := jpA_1446) (v := (4, 6)) (st2 := [(4, 17)]) (jA_56_322 (d := 0)) (by rfl) (by rfl) (by decide +kernel) (by rfl) (by rfl) (by omega) (by omega) (by omega) (by omega) rfl ?_
  refine jT_xastore (v := (4, 17)) (LN := [(4, (4, 17)), (0, (4, 0)), (1, (0, 0)), (2, (0, x2)), (3, (0, 1))]) (pcN := 16) jI_149_14 rfl rfl rfl rfl ?_
  refine jT_xaload_n (v := (4, 0)) (pcN := 17) jI_149_16 rfl rfl rfl ?_
  refine jT_xiload_n (v := (0, x2)) (pcN := 18) jI_149_17 rfl rfl rfl ?_
  refine jT_xaload (v := (4, 17)) (pcN := 20) jI_149_18 rfl rfl rfl ?_
  refine jT_fR [17, 21, 22] 23 (y := 29) (pcN := 23) (dC := 0) (bc1 := 0) (bc2 := 0) (c1 := 1) (c2 := 6) (as := [(4, 17)]) (asC := [(4, 0)]) (LN := [(4, (4, 17)), (0, (4, 0)), (1, (0, 0)), (2, (0, x2)), (3, (0, 1))]) (stN := [(0, x2), (4, 0)]) (hsC := [(7, [(4, 1), (4, (-1)), (4, (-1))], []), (114, [], [2]), jgh]) (v := (0, 1)) (st2 := [(0, 1), (0, x2), (4, 0)]) (jA_29_416 (d := 0)) (by rfl) (by rfl) (by decide +kernel) (by rfl) (by rfl) (by omega) (by omega) (by omega) (by omega) rfl ?_
  exact jT_fX [0] 23 (y := 115) (pcN := 26) (dC := 0) (bc1 := 1) (bc2 := 6) (as := [(4, 0), (0, x2), (0, 1)]) (asC := [(4, 0), (0, x2), (0, 1)]) (LN := [(4, (4, 17)), (0, (4, 0)), (1, (0, 0)), (2, (0, x2)), (3, (0, 1))]) (stN := []) (hsC := [jgh]) (e := 0) (jA_115_453 (d := 0) (by omega)) (by rfl) (by rfl) (by decide +kernel) (by rfl) (by rfl) (by omega) (by omega) (by omega) (by omega) ⟨rfl, ⟨rfl, rfl, rfl⟩⟩
theorem jA_354_919 {xs : List Int} {d : Nat} {x2 : Int} (h_x2 : 1 ≤ x2 ∧ x2 ≤ 2147483647) : jT xs (d + 2) 354 24 0 [(0, (4, 0)), (1, (0, 0)), (2, (0, x2)), (3, (0, 1)), (4, (4, 1))] [] jpA_1806 1 6 (fun k v hsN => k = 0 ∧ v = (0, 1) ∧ hsN = jpA_1806 ++ []) := by
  refine jT_xaload (v := (4, 1)) (pcN := 2) jI_354_0 rfl rfl rfl ?_
  refine jT_xiconst (k := 0) (pcN := 3) jI_354_2 rfl ?_
  refine jT_xaload_n (v := (4, 0)) (pcN := 4) jI_354_3 rfl rfl rfl ?_
  refine jT_xiload_n (v := (0, 0)) (pcN := 5) jI_354_4 rfl rfl rfl ?_
  refine jT_xiload_n (v := (0, x2)) (pcN := 6) jI_354_5 rfl rfl rfl ?_
  refine jT_xiload_n (v := (0, 1)) (pcN := 7) jI_354_6 rfl rfl rfl ?_
  exact jT_fX [0, 2, 3, 4, 5, 6, 7, 8, 9, 10, 11, 12, 13, 14, 15, 16, 17, 18, 19, 20, 21, 22, 23] 24 (y := 149) (pcN := 10) (dC := 1) (bc1 := 1) (bc2 := 6) (as := [(4, 0), (0, 0), (0, x2), (0, 1)]) (asC := [(4, 0), (0, 0), (0, x2), (0, 1)]) (LN := [(0, (4, 0)), (1, (0, 0)), (2, (0, x2)), (3, (0, 1)), (4, (4, 1))]) (stN := [(0, 0), (4, 1)]) (hsC := jpA_1805) (e := 0) (jA_149_918 (d := 0) (by omega)) (by rfl) (by rfl) (by decide +kernel) (by rfl) (by rfl) (by omega) (by omega) (by omega) (by omega) (show _ from ⟨rfl, rfl, rfl⟩)
theorem jA_279_920 {xs : List Int} {d : Nat} {x2 : Int} (h_x2 : 1 ≤ x2 ∧ x2 ≤ 2147483647) : jT xs (d + 2) 279 16 0 [(0, (4, 0)), (1, (0, 0)), (2, (0, x2)), (3, (0, 1))] [] jpA_1519 0 0 (fun k v hsN => k = 0 ∧ v = (0, 0) ∧ hsN = jpA_1820) := by
  refine jT_xaload_n (v := (4, 0)) (pcN := 1) jI_279_0 rfl rfl rfl ?_
  refine jT_xiload_n (v := (0, 0)) (pcN := 2) jI_279_1 rfl rfl rfl ?_
  refine jT_fR [] 16 (y := 238) (pcN := 5) (dC := 1) (bc1 := 0) (bc2 := 0) (c1 := 0) (c2 := 0) (as := [(0, 0)]) (asC := [(0, 0)]) (LN := [(0, (4, 0)), (1, (0, 0)), (2, (0, x2)), (3, (0, 1))]) (stN := [(4, 0)]) (hsC := []) (v := (0, 1)) (st2 := [(0, 1), (4, 0)]) (jA_238_338 (d := 0)) (by rfl) (by rfl) (by decide +kernel) (by rfl) (by rfl) (by omega) (by omega) (by omega) (by omega) rfl ?_
  refine jT_fR [0, 1, 2, 3, 4, 5, 6, 7, 8, 9, 10, 11, 12, 13, 14, 15] 16 (y := 190) (pcN := 8) (dC := 1) (bc1 := 0) (bc2 := 0) (c1 := 0) (c2 := 0) (as := [(4, 0), (0, 1)]) (asC := [(4, 0), (0, 1)]) (LN := [(0, (4, 0)), (1, (0, 0)), (2, (0, x2)), (3, (0, 1))]) (stN := []) (hsC := jpA_22) (v := (0, 0)) (st2 := [(0, 0)]) (jA_190_39 (d := 0)) (by rfl) (by rfl) (by decide +kernel) (by rfl) (by rfl) (by omega) (by omega) (by omega) (by omega) rfl ?_
  refine jT_xifF (t := 25) (pcN := 11) jI_279_8 rfl (by decide +kernel) rfl rfl ?_
  refine jT_xaload_n (v := (4, 0)) (pcN := 12) jI_279_11 rfl rfl rfl ?_
  refine jT_xaload_n (v := (4, 0)) (pcN := 13) jI_279_12 rfl rfl rfl ?_
  refine jT_xiload_n (v := (0, 0)) (pcN := 14) jI_279_13 rfl rfl rfl ?_
  refine jT_xiload_n (v := (0, x2)) (pcN := 15) jI_279_14 rfl rfl rfl ?_
  refine jT_fR [0, 1, 2, 3, 4, 5, 6, 7, 8, 9, 10, 11, 12, 13, 14, 15] 16 (y := 247) (pcN := 18) (dC := 1) (bc1 := 0) (bc2 := 0) (c1 := 0) (c2 := 0) (as := [(4, 0), (0, 0), (0, x2)]) (asC := [(4, 0), (0, 0), (0, x2)]) (LN := [(0, (4, 0)), (1, (0, 0)), (2, (0, x2)), (3, (0, 1))]) (stN := [(4, 0)]) (hsC := jpA_1519) (v := (0, 0)) (st2 := [(0, 0), (4, 0)]) (jA_247_456 (d := 0) (by omega)) (by rfl) (by rfl) (by decide +kernel) (by rfl) (by rfl) (by omega) (by omega) (by omega) (by omega) rfl ?_
  refine jT_xiconst (k := 1) (pcN := 19) jI_279_18 rfl ?_
  refine jT_fB [0, 1, 2, 3, 4, 5, 6, 7, 8, 9, 10, 11, 12, 13, 14, 15] 16 (y := 191) (pcN := 22) (dC := 0) (bc1 := 0) (bc2 := 0) (c1 := 0) (c2 := 0) (as := [(4, 0), (0, 0), (0, 1)]) (asC := [(4, 0), (0, 0), (0, 1)]) (LN := [(0, (4, 0)), (1, (0, 0)), (2, (0, x2)), (3, (0, 1))]) (stN := []) (hsC := jpA_22) (hsD := jpA_20) (v := (0, 1)) (st2 := [(0, 1)]) (hs2 := jpA_1820) (jA_191_5 (d := 0)) (by rfl) (by rfl) (by decide +kernel) (by rfl) (by rfl) (by omega) (by omega) (by omega) (by omega) rfl (by decide +kernel) ?_
  refine jT_xifF (t := 27) (pcN := 25) jI_279_22 rfl (by decide +kernel) rfl rfl ?_
  refine jT_xiconst (k := 0) (pcN := 26) jI_279_25 rfl ?_
  exact jT_ret rfl (by decide) (by show 16 ≤ 16; decide) (by omega) (by omega) ⟨rfl, rfl, rfl⟩
theorem jA_149_921 {xs : List Int} {d : Nat} {x2 : Int} (h_x2 : (-2147483648) ≤ x2 ∧ x2 ≤ (-1)) : jT xs (d + 1) 149 23 0 [(0, (4, 0)), (1, (0, 1)), (2, (0, x2)), (3, (0, 1))] [] jpA_1845 1 6 (fun k v hsN => k = 1 ∧ v = (0, 0) ∧ hsN = jpA_1845 ++ []) := by
  refine jT_xaload_n (v := (4, 0)) (pcN := 1) jI_149_0 rfl rfl rfl ?_
  refine jT_xiload_n (v := (0, 1)) (pcN := 2) jI_149_1 rfl rfl rfl ?_
  refine jT_xiconst (k := 4) (pcN := 3) jI_149_2 rfl ?_
  refine jT_fR [0] 23 (y := 115) (pcN := 6) (dC := 0) (bc1 := 0) (bc2 := 0) (c1 := 1) (c2 := 6) (as := [(4, 0), (0, 1), (0, 4)]) (asC := [(4, 0), (0, 1), (0, 4)]) (LN := [(0, (4, 0)), (1, (0, 1)), (2, (0, x2)), (3, (0, 1))]) (stN := []) (hsC := [jgh]) (v := (9, 0)) (st2 := []) (jA_115_356 (d := 0)) (by rfl) (by rfl) (by decide +kernel) (by rfl) (by rfl) (by omega) (by omega) (by omega) (by omega) rfl ?_
  refine jT_xaload_n (v := (4, 0)) (pcN := 7) jI_149_6 rfl rfl rfl ?_
  refine jT_xgetf (a := 0) (t := 1) (ci := 13) (fi := 11) (c := jzA_5) (v := (4, 11)) (pcN := 10) jI_149_7 rfl rfl rfl rfl rfl rfl rfl ?_
  refine jT_xiload_n (v := (0, 1)) (pcN := 11) jI_149_10 rfl rfl rfl ?_
  refine jT_fR [11, 12, 13, 14, 15, 16, 17, 18, 19, 20] 23 (y := 56) (pcN := 14) (dC := 0) (bc1 := 0) (bc2 := 0) (c1 := 1) (c2 := 6) (as := [(4, 11), (0, 1)]) (asC := [(4, 0), (0, 1)]) (LN := [(0, (4, 0)), (1, (0, 1)), (2, (0, x2)), (3, (0, 1))]) (stN := []) (hsC := jpA_1446) (v := (4, 7)) (st2 := [(4, 18)]) (jA_56_357 (d := 0)) (by rfl) (by rfl) (by decide +kernel) (by rfl) (by rfl) (by omega) (by omega) (by omega) (by omega) rfl ?_
  refine jT_xastore (v := (4, 18)) (LN := [(4, (4, 18)), (0, (4, 0)), (1, (0, 1)), (2, (0, x2)), (3, (0, 1))]) (pcN := 16) jI_149_14 rfl rfl rfl rfl ?_
  refine jT_xaload_n (v := (4, 0)) (pcN := 17) jI_149_16 rfl rfl rfl ?_
  refine jT_xiload_n (v := (0, x2)) (pcN := 18) jI_149_17 rfl rfl rfl ?_
  refine jT_xaload (v := (4, 18)) (pcN := 20) jI_149_18 rfl rfl rfl ?_
  refine jT_fR [18, 21, 22] 23 (y := 29) (pcN := 23) (dC := 0) (bc1 := 0) (bc2 := 0) (c1 := 1) (c2 := 6) (as := [(4, 18)]) (asC := [(4, 0)]) (LN := [(4, (4, 18)), (0, (4, 0)), (1, (0, 1)), (2, (0, x2)), (3, (0, 1))]) (stN := [(0, x2), (4, 0)]) (hsC := [(7, [(4, 1), (4, (-1)), (4, (-1))], []), (114, [], [2]), jgh]) (v := (0, 1)) (st2 := [(0, 1), (0, x2), (4, 0)]) (jA_29_416 (d := 0)) (by rfl) (by rfl) (by decide +kernel) (by rfl) (by rfl) (by omega) (by omega) (by omega) (by omega) rfl ?_
  exact jT_fX [0] 23 (y := 115) (pcN := 26) (dC := 0) (bc1 := 1) (bc2 := 6) (as := [(4, 0), (0, x2), (0, 1)]) (asC := [(4, 0), (0, x2), (0, 1)]) (LN := [(4, (4, 18)), (0, (4, 0)), (1, (0, 1)), (2, (0, x2)), (3, (0, 1))]) (stN := []) (hsC := [jgh]) (e := 0) (jA_115_438 (d := 0) (by omega)) (by rfl) (by rfl) (by decide +kernel) (by rfl) (by rfl) (by omega) (by omega) (by omega) (by omega) ⟨rfl, ⟨rfl, rfl, rfl⟩⟩
theorem jA_354_922 {xs : List Int} {d : Nat} {x2 : Int} (h_x2 : (-2147483648) ≤ x2 ∧ x2 ≤ (-1)) : jT xs (d + 2) 354 24 0 [(0, (4, 0)), (1, (0, 1)), (2, (0, x2)), (3, (0, 1)), (4, (4, 1))] [] jpA_1846 1 6 (fun k v hsN => k = 0 ∧ v = (0, 1) ∧ hsN = jpA_1846 ++ []) := by
  refine jT_xaload (v := (4, 1)) (pcN := 2) jI_354_0 rfl rfl rfl ?_
  refine jT_xiconst (k := 0) (pcN := 3) jI_354_2 rfl ?_
  refine jT_xaload_n (v := (4, 0)) (pcN := 4) jI_354_3 rfl rfl rfl ?_
  refine jT_xiload_n (v := (0, 1)) (pcN := 5) jI_354_4 rfl rfl rfl ?_
  refine jT_xiload_n (v := (0, x2)) (pcN := 6) jI_354_5 rfl rfl rfl ?_
  refine jT_xiload_n (v := (0, 1)) (pcN := 7) jI_354_6 rfl rfl rfl ?_
  exact jT_fX [0, 2, 3, 4, 5, 6, 7, 8, 9, 10, 11, 12, 13, 14, 15, 16, 17, 18, 19, 20, 21, 22, 23] 24 (y := 149) (pcN := 10) (dC := 1) (bc1 := 1) (bc2 := 6) (as := [(4, 0), (0, 1), (0, x2), (0, 1)]) (asC := [(4, 0), (0, 1), (0, x2), (0, 1)]) (LN := [(0, (4, 0)), (1, (0, 1)), (2, (0, x2)), (3, (0, 1)), (4, (4, 1))]) (stN := [(0, 0), (4, 1)]) (hsC := jpA_1845) (e := 0) (jA_149_921 (d := 0) (by omega)) (by rfl) (by rfl) (by decide +kernel) (by rfl) (by rfl) (by omega) (by omega) (by omega) (by omega) (show _ from ⟨rfl, rfl, rfl⟩)
theorem jA_279_923 {xs : List Int} {d : Nat} {x2 : Int} (h_x2 : (-2147483648) ≤ x2 ∧ x2 ≤ (-1)) : jT xs (d + 2) 279 16 0 [(0, (4, 0)), (1, (0, 1)), (2, (0, x2)), (3, (0, 1))] [] jpA_1519 0 0 (fun k v hsN => k = 0 ∧ v = (0, 0) ∧ hsN = jpA_1820) := by
  refine jT_xaload_n (v := (4, 0)) (pcN := 1) jI_279_0 rfl rfl rfl ?_
  refine jT_xiload_n (v := (0, 1)) (pcN := 2) jI_279_1 rfl rfl rfl ?_
  refine jT_fR [] 16 (y := 238) (pcN := 5) (dC := 1) (bc1 := 0) (bc2 := 0) (c1 := 0) (c2 := 0) (as := [(0, 1)]) (asC := [(0, 1)]) (LN := [(0, (4, 0)), (1, (0, 1)), (2, (0, x2)), (3, (0, 1))]) (stN := [(4, 0)]) (hsC := []) (v := (0, 1)) (st2 := [(0, 1), (4, 0)]) (jA_238_362 (d := 0)) (by rfl) (by rfl) (by decide +kernel) (by rfl) (by rfl) (by omega) (by omega) (by omega) (by omega) rfl ?_
  refine jT_fR [0, 1, 2, 3, 4, 5, 6, 7, 8, 9, 10, 11, 12, 13, 14, 15] 16 (y := 190) (pcN := 8) (dC := 1) (bc1 := 0) (bc2 := 0) (c1 := 0) (c2 := 0) (as := [(4, 0), (0, 1)]) (asC := [(4, 0), (0, 1)]) (LN := [(0, (4, 0)), (1, (0, 1)), (2, (0, x2)), (3, (0, 1))]) (stN := []) (hsC := jpA_22) (v := (0, 0)) (st2 := [(0, 0)]) (jA_190_39 (d := 0)) (by rfl) (by rfl) (by decide +kernel) (by rfl) (by rfl) (by omega) (by omega) (by omega) (by omega) rfl ?_
  refine jT_xifF (t := 25) (pcN := 11) jI_279_8 rfl (by decide +kernel) rfl rfl ?_
  refine jT_xaload_n (v := (4, 0)) (pcN := 12) jI_279_11 rfl rfl rfl ?_
  refine jT_xaload_n (v := (4, 0)) (pcN := 13) jI_279_12 rfl rfl rfl ?_
  refine jT_xiload_n (v := (0, 1)) (pcN := 14) jI_279_13 rfl rfl rfl ?_
  refine jT_xiload_n (v := (0, x2)) (pcN := 15) jI_279_14 rfl rfl rfl ?_
  refine jT_fR [0, 1, 2, 3, 4, 5, 6, 7, 8, 9, 10, 11, 12, 13, 14, 15] 16 (y := 247) (pcN := 18) (dC := 1) (bc1 := 0) (bc2 := 0) (c1 := 0) (c2 := 0) (as := [(4, 0), (0, 1), (0, x2)]) (asC := [(4, 0), (0, 1), (0, x2)]) (LN := [(0, (4, 0)), (1, (0, 1)), (2, (0, x2)), (3, (0, 1))]) (stN := [(4, 0)]) (hsC := jpA_1519) (v := (0, 0)) (st2 := [(0, 0), (4, 0)]) (jA_247_460 (d := 0) (by omega)) (by rfl) (by rfl) (by decide +kernel) (by rfl) (by rfl) (by omega) (by omega) (by omega) (by omega) rfl ?_
  refine jT_xiconst (k := 1) (pcN := 19) jI_279_18 rfl ?_
  refine jT_fB [0, 1, 2, 3, 4, 5, 6, 7, 8, 9, 10, 11, 12, 13, 14, 15] 16 (y := 191) (pcN := 22) (dC := 0) (bc1 := 0) (bc2 := 0) (c1 := 0) (c2 := 0) (as := [(4, 0), (0, 0), (0, 1)]) (asC := [(4, 0), (0, 0), (0, 1)]) (LN := [(0, (4, 0)), (1, (0, 1)), (2, (0, x2)), (3, (0, 1))]) (stN := []) (hsC := jpA_22) (hsD := jpA_20) (v := (0, 1)) (st2 := [(0, 1)]) (hs2 := jpA_1820) (jA_191_5 (d := 0)) (by rfl) (by rfl) (by decide +kernel) (by rfl) (by rfl) (by omega) (by omega) (by omega) (by omega) rfl (by decide +kernel) ?_
  refine jT_xifF (t := 27) (pcN := 25) jI_279_22 rfl (by decide +kernel) rfl rfl ?_
  refine jT_xiconst (k := 0) (pcN := 26) jI_279_25 rfl ?_
  exact jT_ret rfl (by decide) (by show 16 ≤ 16; decide) (by omega) (by omega) ⟨rfl, rfl, rfl⟩
def jpA_3637 : List JC := [jzA_5, (8, [(4, 12), (4, 13)], []), jgh, jgh, jgh, jgh, jgh, jgh, jgh, jgh, jgh, jzA_640, jgh, jgh, jgh, (117, [], [19, 20, 21, 22]), jgh, jgh, jgh, jgh, (7, [(4, 23), (4, (-1)), (4, (-1))], []), jgh, jgh, (114, [], [24]), (4, [(4, 25), (1, 1)], []), (101, [], [0, 0, 0, 0, 0, 0])]
def jpA_3638 : List JC := [jzA_5, (8, [(4, 12), (4, 13)], []), jgh, jgh, jgh, jgh, jgh, jgh, jgh, jgh, jgh, jzA_640, jgh, jgh, jgh, (117, [], [19, 20, 21, 22]), jgh, jgh, jgh, jgh, (7, [(4, 23), (4, 26), (4, (-1))], []), jgh, jgh, (114, [], [24]), (4, [(4, 25), (1, 1)], []), (101, [], [0, 0, 0, 0, 0, 0]), (114, [], [30]), (101, [], [0, 0, 0, 0, 0, 0]), (4, [(4, 27), (1, 1)], []), (101, [], [1, 0, 0, 0, 0, 0]), (4, [(4, 29), (1, 1)], [])]
theorem jA_149_924 {xs : List Int} {d : Nat} : jT xs (d + 5) 149 26 0 [(0, (4, 0)), (1, (0, 1)), (2, (0, 0)), (3, (0, 1))] [] jpA_3637 5 17 (fun k v hsN => k = 0 ∧ v = (0, 1200) ∧ hsN = jpA_3638) := by
  refine jT_advK 3 (pcN := 3) (LN := [(0, (4, 0)), (1, (0, 1)), (2, (0, 0)), (3, (0, 1))]) (stN := [(0, 4), (0, 1), (4, 0)]) (hsN := jpA_3637) (c1 := 0) (s1 := 0) (c2 := 5) (s2 := 17) (by decide +kernel) ?_ (by omega) (by omega)
  refine jT_fR [0] 26 (y := 115) (pcN := 6) (dC := 0) (bc1 := 0) (bc2 := 0) (c1 := 5) (c2 := 17) (as := [(4, 0), (0, 1), (0, 4)]) (asC := [(4, 0), (0, 1), (0, 4)]) (LN := [(0, (4, 0)), (1, (0, 1)), (2, (0, 0)), (3, (0, 1))]) (stN := []) (hsC := [jgh]) (v := (9, 0)) (st2 := []) (jA_115_356 (d := 0)) (by rfl) (by rfl) (by decide +kernel) (by rfl) (by rfl) (by omega) (by omega) (by omega) (by omega) rfl ?_
  refine jT_advK 3 (pcN := 11) (LN := [(0, (4, 0)), (1, (0, 1)), (2, (0, 0)), (3, (0, 1))]) (stN := [(0, 1), (4, 11)]) (hsN := jpA_3637) (c1 := 0) (s1 := 0) (c2 := 5) (s2 := 17) (by decide +kernel) ?_ (by omega) (by omega)
  refine jT_fR [11, 14, 15, 16, 17, 18, 19, 20, 21, 22] 26 (y := 56) (pcN := 14) (dC := 0) (bc1 := 0) (bc2 := 0) (c1 := 5) (c2 := 17) (as := [(4, 11), (0, 1)]) (asC := [(4, 0), (0, 1)]) (LN := [(0, (4, 0)), (1, (0, 1)), (2, (0, 0)), (3, (0, 1))]) (stN := []) (hsC := jpA_1446) (v := (4, 7)) (st2 := [(4, 20)]) (jA_56_357 (d := 0)) (by rfl) (by rfl) (by decide +kernel) (by rfl) (by rfl) (by omega) (by omega) (by omega) (by omega) rfl ?_
  refine jT_advK 4 (pcN := 20) (LN := [(4, (4, 20)), (0, (4, 0)), (1, (0, 1)), (2, (0, 0)), (3, (0, 1))]) (stN := [(4, 20), (0, 0), (4, 0)]) (hsN := jpA_3637) (c1 := 0) (s1 := 0) (c2 := 5) (s2 := 17) (by decide +kernel) ?_ (by omega) (by omega)
  refine jT_fR [20, 23, 24] 26 (y := 29) (pcN := 23) (dC := 0) (bc1 := 0) (bc2 := 0) (c1 := 5) (c2 := 17) (as := [(4, 20)]) (asC := [(4, 0)]) (LN := [(4, (4, 20)), (0, (4, 0)), (1, (0, 1)), (2, (0, 0)), (3, (0, 1))]) (stN := [(0, 0), (4, 0)]) (hsC := [(7, [(4, 1), (4, (-1)), (4, (-1))], []), (114, [], [2]), jgh]) (v := (0, 1)) (st2 := [(0, 1), (0, 0), (4, 0)]) (jA_29_416 (d := 0)) (by rfl) (by rfl) (by decide +kernel) (by rfl) (by rfl) (by omega) (by omega) (by omega) (by omega) rfl ?_
  refine jT_fR [0] 26 (y := 115) (pcN := 26) (dC := 0) (bc1 := 0) (bc2 := 0) (c1 := 5) (c2 := 17) (as := [(4, 0), (0, 0), (0, 1)]) (asC := [(4, 0), (0, 0), (0, 1)]) (LN := [(4, (4, 20)), (0, (4, 0)), (1, (0, 1)), (2, (0, 0)), (3, (0, 1))]) (stN := []) (hsC := [jgh]) (v := (9, 0)) (st2 := []) (jA_115_443 (d := 0)) (by rfl) (by rfl) (by decide +kernel) (by rfl) (by rfl) (by omega) (by omega) (by omega) (by omega) rfl ?_
  refine jT_advK 6 (pcN := 37) (LN := [(4, (4, 20)), (0, (4, 0)), (1, (0, 1)), (2, (0, 0)), (3, (0, 1))]) (stN := [(0, 0), (4, 20), (4, 1)]) (hsN := jpA_3637) (c1 := 0) (s1 := 0) (c2 := 5) (s2 := 17) (by decide +kernel) ?_ (by omega) (by omega)
  refine jT_fB [20, 23, 24, 25] 26 (y := 31) (pcN := 40) (dC := 4) (bc1 := 5) (bc2 := 17) (c1 := 0) (c2 := 0) (as := [(4, 20), (0, 0)]) (asC := [(4, 0), (0, 0)]) (LN := [(4, (4, 20)), (0, (4, 0)), (1, (0, 1)), (2, (0, 0)), (3, (0, 1))]) (stN := [(4, 1)]) (hsC := jpA_1822) (hsD := jpA_3610) (v := (4, 8)) (st2 := [(4, 30), (4, 1)]) (hs2 := jpA_3638) (jA_31_897 (d := 0)) (by rfl) (by rfl) (by decide +kernel) (by rfl) (by rfl) (by omega) (by omega) (by omega) (by omega) rfl (by decide +kernel) ?_
  refine jT_advK 2 (pcN := 52) (LN := [(4, (4, 20)), (0, (4, 0)), (1, (0, 1)), (2, (0, 0)), (3, (0, 1))]) (stN := [(1, 1200), (4, 30), (4, 1)]) (hsN := jpA_3638) (c1 := 0) (s1 := 0) (c2 := 0) (s2 := 0) (by decide +kernel) ?_ (by omega) (by omega)
  refine jT_fR [1, 30, 12, 13, 29] 31 (y := 43) (pcN := 55) (dC := 3) (bc1 := 0) (bc2 := 0) (c1 := 0) (c2 := 0) (as := [(4, 1), (4, 30), (1, 1200)]) (asC := [(4, 0), (4, 1), (1, 1200)]) (LN := [(4, (4, 20)), (0, (4, 0)), (1, (0, 1)), (2, (0, 0)), (3, (0, 1))]) (stN := []) (hsC := jpA_3612) (v := (1, 1200)) (st2 := [(1, 1200)]) (jA_43_904 (d := 0)) (by rfl) (by rfl) (by decide +kernel) (by rfl) (by rfl) (by omega) (by omega) (by omega) (by omega) rfl ?_
  refine jT_advK 1 (pcN := 56) (LN := [(4, (4, 20)), (0, (4, 0)), (1, (0, 1)), (2, (0, 0)), (3, (0, 1))]) (stN := [(0, 1200)]) (hsN := jpA_3638) (c1 := 0) (s1 := 0) (c2 := 0) (s2 := 0) (by decide +kernel) ?_ (by omega) (by omega)
  exact jT_ret rfl (by decide) (by show 26 ≤ 31; decide) (by omega) (by omega) ⟨rfl, rfl, rfl⟩
def jpA_3639 : List JC := [jzA_14, (101, [], [0]), (8, [(4, 13), (4, 14)], []), jgh, jgh, jgh, jgh, jgh, jgh, jgh, jgh, jgh, jzA_659, jgh, jgh, jgh, (117, [], [20, 21, 22, 23]), jgh, jgh, jgh, jgh, (7, [(4, 24), (4, (-1)), (4, (-1))], []), jgh, jgh, (114, [], [25]), (4, [(4, 26), (1, 1)], []), (101, [], [0, 0, 0, 0, 0, 0])]
def jpA_3640 : List JC := [jzA_14, (101, [], [0]), (8, [(4, 13), (4, 14)], []), jgh, jgh, jgh, jgh, jgh, jgh, jgh, jgh, jgh, jzA_659, jgh, jgh, jgh, (117, [], [20, 21, 22, 23]), jgh, jgh, jgh, jgh, (7, [(4, 24), (4, 27), (4, (-1))], []), jgh, jgh, (114, [], [25]), (4, [(4, 26), (1, 1)], []), (101, [], [0, 0, 0, 0, 0, 0]), (114, [], [31]), (101, [], [0, 0, 0, 0, 0, 0]), (4, [(4, 28), (1, 1)], []), (101, [], [1, 0, 0, 0, 0, 0]), (4, [(4, 30), (1, 1)], [])]
def jpA_3641 : List JC := [jzA_14, (101, [], [1200]), (8, [(4, 13), (4, 14)], []), jgh, jgh, jgh, jgh, jgh, jgh, jgh, jgh, jgh, jzA_659, jgh, jgh, jgh, (117, [], [20, 21, 22, 23]), jgh, jgh, jgh, jgh, (7, [(4, 24), (4, 27), (4, (-1))], []), jgh, jgh, (114, [], [25]), (4, [(4, 26), (1, 1)], []), (101, [], [0, 0, 0, 0, 0, 0]), (114, [], [31]), (101, [], [0, 0, 0, 0, 0, 0]), (4, [(4, 28), (1, 1)], []), (101, [], [1, 0, 0, 0, 0, 0]), (4, [(4, 30), (1, 1)], [])]
theorem jA_354_925 {xs : List Int} {d : Nat} : jT xs (d + 6) 354 27 0 [(0, (4, 0)), (1, (0, 1)), (2, (0, 0)), (3, (0, 1)), (4, (4, 1))] [] jpA_3639 5 17 (fun k v hsN => k = 0 ∧ v = (0, 0) ∧ hsN = jpA_3641) := by
  refine jT_advK 6 (pcN := 7) (LN := [(0, (4, 0)), (1, (0, 1)), (2, (0, 0)), (3, (0, 1)), (4, (4, 1))]) (stN := [(0, 1), (0, 0), (0, 1), (4, 0), (0, 0), (4, 1)]) (hsN := jpA_3639) (c1 := 0) (s1 := 0) (c2 := 5) (s2 := 17) (by decide +kernel) ?_ (by omega) (by omega)
  refine jT_fB [0, 2, 3, 4, 5, 6, 7, 8, 9, 10, 11, 12, 13, 14, 15, 16, 17, 18, 19, 20, 21, 22, 23, 24, 25, 26] 27 (y := 149) (pcN := 10) (dC := 5) (bc1 := 5) (bc2 := 17) (c1 := 0) (c2 := 0) (as := [(4, 0), (0, 1), (0, 0), (0, 1)]) (asC := [(4, 0), (0, 1), (0, 0), (0, 1)]) (LN := [(0, (4, 0)), (1, (0, 1)), (2, (0, 0)), (3, (0, 1)), (4, (4, 1))]) (stN := [(0, 0), (4, 1)]) (hsC := jpA_3637) (hsD := jpA_3638) (v := (0, 1200)) (st2 := [(0, 1200), (0, 0), (4, 1)]) (hs2 := jpA_3640) (jA_149_924 (d := 0)) (by rfl) (by rfl) (by decide +kernel) (by rfl) (by rfl) (by omega) (by omega) (by omega) (by omega) rfl (by decide +kernel) ?_
  refine jT_advK 4 (pcN := 20) (LN := [(0, (4, 0)), (1, (0, 1)), (2, (0, 0)), (3, (0, 1)), (4, (4, 1))]) (stN := [(0, 0)]) (hsN := jpA_3641) (c1 := 0) (s1 := 0) (c2 := 0) (s2 := 0) (by decide +kernel) ?_ (by omega) (by omega)
  exact jT_ret rfl (by decide) (by show 27 ≤ 32; decide) (by omega) (by omega) ⟨rfl, rfl, rfl⟩
theorem jA_204_926 {xs : List Int} {d : Nat} : jT xs (d + 3) 204 16 0 [(0, (4, 0)), (1, (4, 1)), (2, (0, 338)), (3, (1, (-1)))] [] jpA_3619 0 0 (fun k v hsN => k = 0 ∧ v = (9, 0) ∧ hsN = jpA_3619 ++ []) := by
  refine jT_advK 4 (pcN := 5) (LN := [(0, (4, 0)), (1, (4, 1)), (2, (0, 338)), (3, (1, (-1)))]) (stN := [(0, 344), (4, 1)]) (hsN := jpA_3619) (c1 := 0) (s1 := 0) (c2 := 0) (s2 := 0) (by decide +kernel) ?_ (by omega) (by omega)
  refine jT_iald (x := 1) (a := 1) (j := 344) (fs := []) (X := jS0) (by rfl) (by rfl) (by rfl) (by rfl) (by decide +kernel) ?_
  refine jT_eq (LN := [(0, (4, 0)), (1, (4, 1)), (2, (0, 338)), (3, (1, (-1)))]) (stN := [(0, 1)]) (hsN := jpA_3619) rfl rfl rfl ?_
  refine jT_advK 7 (pcN := 19) (LN := [(5, (1, 1)), (0, (4, 0)), (1, (4, 1)), (2, (0, 338)), (3, (1, (-1)))]) (stN := [(1, 1), (1, 1), (1, 1)]) (hsN := jpA_3619) (c1 := 0) (s1 := 0) (c2 := 0) (s2 := 0) (by decide +kernel) ?_ (by omega) (by omega)
  refine jT_fR [] 16 (y := 194) (pcN := 22) (dC := 1) (bc1 := 0) (bc2 := 0) (c1 := 0) (c2 := 0) (as := [(1, 1), (1, 1)]) (asC := [(1, 1), (1, 1)]) (LN := [(5, (1, 1)), (0, (4, 0)), (1, (4, 1)), (2, (0, 338)), (3, (1, (-1)))]) (stN := [(1, 1)]) (hsC := []) (v := (1, 1)) (st2 := [(1, 1), (1, 1)]) (jA_194_43 (d := 0)) (by rfl) (by rfl) (by decide +kernel) (by rfl) (by rfl) (by omega) (by omega) (by omega) (by omega) rfl ?_
  refine jT_advK 26 (pcN := 65) (LN := [(9, (0, 0)), (7, (1, 1)), (5, (1, 1)), (0, (4, 0)), (1, (4, 1)), (2, (0, 338)), (3, (1, (-1)))]) (stN := [(0, 338), (4, 1), (1, (-1)), (1, 1), (0, 0), (4, 7)]) (hsN := jpA_3619) (c1 := 0) (s1 := 0) (c2 := 0) (s2 := 0) (by decide +kernel) ?_ (by omega) (by omega)
  refine jT_iald (x := 0) (a := 1) (j := 338) (fs := []) (X := jS0) (by rfl) (by rfl) (by rfl) (by rfl) (by decide +kernel) ?_
  refine jT_eq (LN := [(9, (0, 0)), (7, (1, 1)), (5, (1, 1)), (0, (4, 0)), (1, (4, 1)), (2, (0, 338)), (3, (1, (-1)))]) (stN := [(0, 0), (1, (-1)), (1, 1), (0, 0), (4, 7)]) (hsN := jpA_3619) rfl rfl rfl ?_
  refine jT_advK 30 (pcN := 65) (LN := [(9, (0, 1)), (7, (1, 1)), (5, (1, 1)), (0, (4, 0)), (1, (4, 1)), (2, (0, 338)), (3, (1, (-1)))]) (stN := [(0, 339), (4, 1), (1, (-1)), (1, 0), (0, 1), (4, 7)]) (hsN := jpA_3619) (c1 := 0) (s1 := 0) (c2 := 0) (s2 := 0) (by decide +kernel) ?_ (by omega) (by omega)
  refine jT_iald (x := 0) (a := 1) (j := 339) (fs := []) (X := jS0) (by rfl) (by rfl) (by rfl) (by rfl) (by decide +kernel) ?_
  refine jT_eq (LN := [(9, (0, 1)), (7, (1, 1)), (5, (1, 1)), (0, (4, 0)), (1, (4, 1)), (2, (0, 338)), (3, (1, (-1)))]) (stN := [(0, 0), (1, (-1)), (1, 0), (0, 1), (4, 7)]) (hsN := jpA_3619) rfl rfl rfl ?_
  refine jT_advK 30 (pcN := 65) (LN := [(9, (0, 2)), (7, (1, 1)), (5, (1, 1)), (0, (4, 0)), (1, (4, 1)), (2, (0, 338)), (3, (1, (-1)))]) (stN := [(0, 340), (4, 1), (1, (-1)), (1, 0), (0, 2), (4, 7)]) (hsN := jpA_3619) (c1 := 0) (s1 := 0) (c2 := 0) (s2 := 0) (by decide +kernel) ?_ (by omega) (by omega)
  refine jT_iald (x := 0) (a := 1) (j := 340) (fs := []) (X := jS0) (by rfl) (by rfl) (by rfl) (by rfl) (by decide +kernel) ?_
  refine jT_eq (LN := [(9, (0, 2)), (7, (1, 1)), (5, (1, 1)), (0, (4, 0)), (1, (4, 1)), (2, (0, 338)), (3, (1, (-1)))]) (stN := [(0, 0), (1, (-1)), (1, 0), (0, 2), (4, 7)]) (hsN := jpA_3619) rfl rfl rfl ?_
  refine jT_advK 30 (pcN := 65) (LN := [(9, (0, 3)), (7, (1, 1)), (5, (1, 1)), (0, (4, 0)), (1, (4, 1)), (2, (0, 338)), (3, (1, (-1)))]) (stN := [(0, 341), (4, 1), (1, (-1)), (1, 0), (0, 3), (4, 7)]) (hsN := jpA_3619) (c1 := 0) (s1 := 0) (c2 := 0) (s2 := 0) (by decide +kernel) ?_ (by omega) (by omega)
  refine jT_iald (x := 0) (a := 1) (j := 341) (fs := []) (X := jS0) (by rfl) (by rfl) (by rfl) (by rfl) (by decide +kernel) ?_
  refine jT_eq (LN := [(9, (0, 3)), (7, (1, 1)), (5, (1, 1)), (0, (4, 0)), (1, (4, 1)), (2, (0, 338)), (3, (1, (-1)))]) (stN := [(0, 0), (1, (-1)), (1, 0), (0, 3), (4, 7)]) (hsN := jpA_3619) rfl rfl rfl ?_
  refine jT_advK 30 (pcN := 65) (LN := [(9, (0, 4)), (7, (1, 1)), (5, (1, 1)), (0, (4, 0)), (1, (4, 1)), (2, (0, 338)), (3, (1, (-1)))]) (stN := [(0, 342), (4, 1), (1, (-1)), (1, 0), (0, 4), (4, 7)]) (hsN := jpA_3619) (c1 := 0) (s1 := 0) (c2 := 0) (s2 := 0) (by decide +kernel) ?_ (by omega) (by omega)
  refine jT_iald (x := 0) (a := 1) (j := 342) (fs := []) (X := jS0) (by rfl) (by rfl) (by rfl) (by rfl) (by decide +kernel) ?_
  refine jT_eq (LN := [(9, (0, 4)), (7, (1, 1)), (5, (1, 1)), (0, (4, 0)), (1, (4, 1)), (2, (0, 338)), (3, (1, (-1)))]) (stN := [(0, 0), (1, (-1)), (1, 0), (0, 4), (4, 7)]) (hsN := jpA_3619) rfl rfl rfl ?_
  refine jT_advK 30 (pcN := 65) (LN := [(9, (0, 5)), (7, (1, 1)), (5, (1, 1)), (0, (4, 0)), (1, (4, 1)), (2, (0, 338)), (3, (1, (-1)))]) (stN := [(0, 343), (4, 1), (1, (-1)), (1, 0), (0, 5), (4, 7)]) (hsN := jpA_3619) (c1 := 0) (s1 := 0) (c2 := 0) (s2 := 0) (by decide +kernel) ?_ (by omega) (by omega)
  refine jT_iald (x := 0) (a := 1) (j := 343) (fs := []) (X := jS0) (by rfl) (by rfl) (by rfl) (by rfl) (by decide +kernel) ?_
  refine jT_eq (LN := [(9, (0, 5)), (7, (1, 1)), (5, (1, 1)), (0, (4, 0)), (1, (4, 1)), (2, (0, 338)), (3, (1, (-1)))]) (stN := [(0, 0), (1, (-1)), (1, 0), (0, 5), (4, 7)]) (hsN := jpA_3619) rfl rfl rfl ?_
  refine jT_advK 17 (pcN := 89) (LN := [(9, (0, 6)), (7, (1, 1)), (5, (1, 1)), (0, (4, 0)), (1, (4, 1)), (2, (0, 338)), (3, (1, (-1)))]) (stN := [(4, 0)]) (hsN := jpA_3619) (c1 := 0) (s1 := 0) (c2 := 0) (s2 := 0) (by decide +kernel) ?_ (by omega) (by omega)
  refine jT_fR [0, 1, 2, 3, 4, 5, 6, 7, 8, 9, 10, 11, 12, 13, 14, 15] 16 (y := 199) (pcN := 92) (dC := 2) (bc1 := 0) (bc2 := 0) (c1 := 0) (c2 := 0) (as := [(4, 0)]) (asC := [(4, 0)]) (LN := [(9, (0, 6)), (7, (1, 1)), (5, (1, 1)), (0, (4, 0)), (1, (4, 1)), (2, (0, 338)), (3, (1, (-1)))]) (stN := []) (hsC := jpA_3618) (v := (9, 0)) (st2 := []) (jA_199_907 (d := 0)) (by rfl) (by rfl) (by decide +kernel) (by rfl) (by rfl) (by omega) (by omega) (by omega) (by omega) rfl ?_
  exact jT_ret rfl (by decide) (by show 16 ≤ 16; decide) (by omega) (by omega) ⟨rfl, rfl, rfl⟩
theorem jA_280_927 {xs : List Int} {d : Nat} : jT xs (d + 4) 280 16 0 [(0, (4, 0)), (1, (0, 1)), (2, (0, 0))] [] jpA_130 0 0 (fun k v hsN => k = 0 ∧ v = (9, 0) ∧ hsN = jpA_3619) := by
  refine jT_advK 5 (pcN := 5) (LN := [(0, (4, 0)), (1, (0, 1)), (2, (0, 0))]) (stN := [(0, 1), (4, 0), (0, 1)]) (hsN := jpA_130) (c1 := 0) (s1 := 0) (c2 := 0) (s2 := 0) (by decide +kernel) ?_ (by omega) (by omega)
  refine jT_fR [0, 1, 2, 3, 4, 5, 6, 7, 8, 9, 10, 11, 12, 13, 14, 15] 16 (y := 245) (pcN := 8) (dC := 0) (bc1 := 0) (bc2 := 0) (c1 := 0) (c2 := 0) (as := [(4, 0), (0, 1)]) (asC := [(4, 0), (0, 1)]) (LN := [(0, (4, 0)), (1, (0, 1)), (2, (0, 0))]) (stN := [(0, 1)]) (hsC := jpA_1519) (v := (0, 1)) (st2 := [(0, 1), (0, 1)]) (jA_245_363 (d := 0)) (by rfl) (by rfl) (by decide +kernel) (by rfl) (by rfl) (by omega) (by omega) (by omega) (by omega) rfl ?_
  refine jT_advK 7 (pcN := 17) (LN := [(3, (0, 0)), (0, (4, 0)), (1, (0, 1)), (2, (0, 0))]) (stN := [(0, 0), (0, 1), (4, 1), (4, 0)]) (hsN := jpA_130) (c1 := 0) (s1 := 0) (c2 := 0) (s2 := 0) (by decide +kernel) ?_ (by omega) (by omega)
  refine jT_fR [] 16 (y := 242) (pcN := 20) (dC := 0) (bc1 := 0) (bc2 := 0) (c1 := 0) (c2 := 0) (as := [(0, 1), (0, 0)]) (asC := [(0, 1), (0, 0)]) (LN := [(3, (0, 0)), (0, (4, 0)), (1, (0, 1)), (2, (0, 0))]) (stN := [(4, 1), (4, 0)]) (hsC := []) (v := (0, 338)) (st2 := [(0, 338), (4, 1), (4, 0)]) (jA_242_364 (d := 0)) (by rfl) (by rfl) (by decide +kernel) (by rfl) (by rfl) (by omega) (by omega) (by omega) (by omega) rfl ?_
  refine jT_fR [0, 1, 2, 3, 4, 5, 6, 7, 8, 9, 10, 11, 12, 13, 14, 15] 16 (y := 203) (pcN := 23) (dC := 0) (bc1 := 0) (bc2 := 0) (c1 := 0) (c2 := 0) (as := [(4, 0), (4, 1), (0, 338)]) (asC := [(4, 0), (4, 1), (0, 338)]) (LN := [(3, (0, 0)), (0, (4, 0)), (1, (0, 1)), (2, (0, 0))]) (stN := []) (hsC := jpA_130) (v := (9, 0)) (st2 := []) (jA_203_367 (d := 0)) (by rfl) (by rfl) (by decide +kernel) (by rfl) (by rfl) (by omega) (by omega) (by omega) (by omega) rfl ?_
  refine jT_advK 16 (pcN := 47) (LN := [(3, (0, 0)), (0, (4, 0)), (1, (0, 1)), (2, (0, 0))]) (stN := [(0, 0), (0, 1), (4, 1), (4, 0)]) (hsN := jpA_3619) (c1 := 0) (s1 := 0) (c2 := 0) (s2 := 0) (by decide +kernel) ?_ (by omega) (by omega)
  refine jT_fR [] 16 (y := 242) (pcN := 50) (dC := 0) (bc1 := 0) (bc2 := 0) (c1 := 0) (c2 := 0) (as := [(0, 1), (0, 0)]) (asC := [(0, 1), (0, 0)]) (LN := [(3, (0, 0)), (0, (4, 0)), (1, (0, 1)), (2, (0, 0))]) (stN := [(4, 1), (4, 0)]) (hsC := []) (v := (0, 338)) (st2 := [(0, 338), (4, 1), (4, 0)]) (jA_242_364 (d := 0)) (by rfl) (by rfl) (by decide +kernel) (by rfl) (by rfl) (by omega) (by omega) (by omega) (by omega) rfl ?_
  refine jT_advK 1 (pcN := 53) (LN := [(3, (0, 0)), (0, (4, 0)), (1, (0, 1)), (2, (0, 0))]) (stN := [(1, (-1)), (0, 338), (4, 1), (4, 0)]) (hsN := jpA_3619) (c1 := 0) (s1 := 0) (c2 := 0) (s2 := 0) (by decide +kernel) ?_ (by omega) (by omega)
  refine jT_fR [0, 1, 2, 3, 4, 5, 6, 7, 8, 9, 10, 11, 12, 13, 14, 15] 16 (y := 204) (pcN := 56) (dC := 3) (bc1 := 0) (bc2 := 0) (c1 := 0) (c2 := 0) (as := [(4, 0), (4, 1), (0, 338), (1, (-1))]) (asC := [(4, 0), (4, 1), (0, 338), (1, (-1))]) (LN := [(3, (0, 0)), (0, (4, 0)), (1, (0, 1)), (2, (0, 0))]) (stN := []) (hsC := jpA_3619) (v := (9, 0)) (st2 := []) (jA_204_926 (d := 0)) (by rfl) (by rfl) (by decide +kernel) (by rfl) (by rfl) (by omega) (by omega) (by omega) (by omega) rfl ?_
  exact jT_ret rfl (by decide) (by show 16 ≤ 16; decide) (by omega) (by omega) ⟨rfl, rfl, rfl⟩
theorem jA_279_928 {xs : List Int} {d : Nat} : jT xs (d + 8) 279 22 0 [(0, (4, 0)), (1, (0, 1)), (2, (0, 0)), (3, (0, 1))] [] jpA_1695 10 360 (fun k v hsN => k = 0 ∧ v = (0, 1200) ∧ hsN = jpA_3636) := by
  refine jT_advK 2 (pcN := 2) (LN := [(0, (4, 0)), (1, (0, 1)), (2, (0, 0)), (3, (0, 1))]) (stN := [(0, 1), (4, 0)]) (hsN := jpA_1695) (c1 := 0) (s1 := 0) (c2 := 10) (s2 := 360) (by decide +kernel) ?_ (by omega) (by omega)
  refine jT_fR [] 22 (y := 238) (pcN := 5) (dC := 1) (bc1 := 0) (bc2 := 0) (c1 := 10) (c2 := 360) (as := [(0, 1)]) (asC := [(0, 1)]) (LN := [(0, (4, 0)), (1, (0, 1)), (2, (0, 0)), (3, (0, 1))]) (stN := [(4, 0)]) (hsC := []) (v := (0, 1)) (st2 := [(0, 1), (4, 0)]) (jA_238_362 (d := 0)) (by rfl) (by rfl) (by decide +kernel) (by rfl) (by rfl) (by omega) (by omega) (by omega) (by omega) rfl ?_
  refine jT_fR [0, 1, 2, 3, 4, 5, 6, 7, 8, 9, 10, 11, 12, 13, 14, 15] 22 (y := 190) (pcN := 8) (dC := 1) (bc1 := 0) (bc2 := 0) (c1 := 10) (c2 := 360) (as := [(4, 0), (0, 1)]) (asC := [(4, 0), (0, 1)]) (LN := [(0, (4, 0)), (1, (0, 1)), (2, (0, 0)), (3, (0, 1))]) (stN := []) (hsC := jpA_22) (v := (0, 0)) (st2 := [(0, 0)]) (jA_190_39 (d := 0)) (by rfl) (by rfl) (by decide +kernel) (by rfl) (by rfl) (by omega) (by omega) (by omega) (by omega) rfl ?_
  refine jT_advK 5 (pcN := 15) (LN := [(0, (4, 0)), (1, (0, 1)), (2, (0, 0)), (3, (0, 1))]) (stN := [(0, 0), (0, 1), (4, 0), (4, 0)]) (hsN := jpA_1695) (c1 := 0) (s1 := 0) (c2 := 10) (s2 := 360) (by decide +kernel) ?_ (by omega) (by omega)
  refine jT_fR [0, 1, 2, 3, 4, 5, 6, 7, 8, 9, 10, 11, 12, 13, 14, 15] 22 (y := 247) (pcN := 18) (dC := 1) (bc1 := 0) (bc2 := 0) (c1 := 10) (c2 := 360) (as := [(4, 0), (0, 1), (0, 0)]) (asC := [(4, 0), (0, 1), (0, 0)]) (LN := [(0, (4, 0)), (1, (0, 1)), (2, (0, 0)), (3, (0, 1))]) (stN := [(4, 0)]) (hsC := jpA_1519) (v := (0, 1)) (st2 := [(0, 1), (4, 0)]) (jA_247_464 (d := 0)) (by rfl) (by rfl) (by decide +kernel) (by rfl) (by rfl) (by omega) (by omega) (by omega) (by omega) rfl ?_
  refine jT_advK 1 (pcN := 19) (LN := [(0, (4, 0)), (1, (0, 1)), (2, (0, 0)), (3, (0, 1))]) (stN := [(0, 1), (0, 1), (4, 0)]) (hsN := jpA_1695) (c1 := 0) (s1 := 0) (c2 := 10) (s2 := 360) (by decide +kernel) ?_ (by omega) (by omega)
  refine jT_fR [0] 22 (y := 191) (pcN := 22) (dC := 0) (bc1 := 0) (bc2 := 0) (c1 := 10) (c2 := 360) (as := [(4, 0), (0, 1), (0, 1)]) (asC := [(4, 0), (0, 1), (0, 1)]) (LN := [(0, (4, 0)), (1, (0, 1)), (2, (0, 0)), (3, (0, 1))]) (stN := []) (hsC := [jgh]) (v := (0, 0)) (st2 := [(0, 0)]) (jA_191_38 (d := 0)) (by rfl) (by rfl) (by decide +kernel) (by rfl) (by rfl) (by omega) (by omega) (by omega) (by omega) rfl ?_
  refine jT_advK 6 (pcN := 34) (LN := [(0, (4, 0)), (1, (0, 1)), (2, (0, 0)), (3, (0, 1))]) (stN := [(0, 0), (0, 1), (4, 0)]) (hsN := jpA_1695) (c1 := 0) (s1 := 0) (c2 := 10) (s2 := 360) (by decide +kernel) ?_ (by omega) (by omega)
  refine jT_fB [0, 1, 2, 3, 4, 5, 6, 7, 8, 9, 10, 11, 12, 13, 14, 15] 22 (y := 280) (pcN := 37) (dC := 4) (bc1 := 0) (bc2 := 0) (c1 := 10) (c2 := 360) (as := [(4, 0), (0, 1), (0, 0)]) (asC := [(4, 0), (0, 1), (0, 0)]) (LN := [(0, (4, 0)), (1, (0, 1)), (2, (0, 0)), (3, (0, 1))]) (stN := []) (hsC := jpA_130) (hsD := jpA_3619) (v := (9, 0)) (st2 := []) (hs2 := jpA_3635) (jA_280_927 (d := 0)) (by rfl) (by rfl) (by decide +kernel) (by rfl) (by rfl) (by omega) (by omega) (by omega) (by omega) rfl (by decide +kernel) ?_
  refine jT_advK 4 (pcN := 56) (LN := [(0, (4, 0)), (1, (0, 1)), (2, (0, 0)), (3, (0, 1))]) (stN := [(0, 2), (1, 1), (4, 0)]) (hsN := jpA_3635) (c1 := 0) (s1 := 0) (c2 := 10) (s2 := 360) (by decide +kernel) ?_ (by omega) (by omega)
  refine jT_fA [0, 1, 2, 3, 4, 5, 6, 7, 8, 9, 10, 11, 12, 13, 14, 15, 16, 17, 18, 19, 20, 21] 22 (y := 265) (pcN := 59) (dC := 7) (bc1 := 10) (bc2 := 360) (c1 := 0) (c2 := 0) (as := [(4, 0), (1, 1), (0, 2)]) (asC := [(4, 0), (1, 1), (0, 2)]) (LN := [(0, (4, 0)), (1, (0, 1)), (2, (0, 0)), (3, (0, 1))]) (stN := []) (hsC := jpA_3631) (ex := jpA_3634) (v := (1, 1200)) (st2 := [(1, 1200)]) (hs2 := jpA_3636) (jA_265_916 (d := 0)) (by rfl) (by rfl) (by decide +kernel) (by rfl) (by rfl) (by omega) (by omega) (by omega) (by omega) rfl (by decide +kernel) ?_
  refine jT_advK 1 (pcN := 60) (LN := [(0, (4, 0)), (1, (0, 1)), (2, (0, 0)), (3, (0, 1))]) (stN := [(0, 1200)]) (hsN := jpA_3636) (c1 := 0) (s1 := 0) (c2 := 0) (s2 := 0) (by decide +kernel) ?_ (by omega) (by omega)
  exact jT_ret rfl (by decide) (by show 22 ≤ 32; decide) (by omega) (by omega) ⟨rfl, rfl, rfl⟩
theorem jA_149_929 {xs : List Int} {d : Nat} {x2 : Int} (h_x2 : 1 ≤ x2 ∧ x2 ≤ 2147483647) : jT xs (d + 1) 149 23 0 [(0, (4, 0)), (1, (0, 1)), (2, (0, x2)), (3, (0, 1))] [] jpA_1845 1 6 (fun k v hsN => k = 1 ∧ v = (0, 0) ∧ hsN = jpA_1845 ++ []) := by
  refine jT_xaload_n (v := (4, 0)) (pcN := 1) jI_149_0 rfl rfl rfl ?_
  refine jT_xiload_n (v := (0, 1)) (pcN := 2) jI_149_1 rfl rfl rfl ?_
  refine jT_xiconst (k := 4) (pcN := 3) jI_149_2 rfl ?_
  refine jT_fR [0] 23 (y := 115) (pcN := 6) (dC := 0) (bc1 := 0) (bc2 := 0) (c1 := 1) (c2 := 6) (as := [(4, 0), (0, 1), (0, 4)]) (asC := [(4, 0), (0, 1), (0, 4)]) (LN := [(0, (4, 0)), (1, (0, 1)), (2, (0, x2)), (3, (0, 1))]) (stN := []) (hsC := [jgh]) (v := (9, 0)) (st2 := []) (jA_115_356 (d := 0)) (by rfl) (by rfl) (by decide +kernel) (by rfl) (by rfl) (by omega) (by omega) (by omega) (by omega) rfl ?_
  refine jT_xaload_n (v := (4, 0)) (pcN := 7) jI_149_6 rfl rfl rfl ?_
  refine jT_xgetf (a := 0) (t := 1) (ci := 13) (fi := 11) (c := jzA_5) (v := (4, 11)) (pcN := 10) jI_149_7 rfl rfl rfl rfl rfl rfl rfl ?_
  refine jT_xiload_n (v := (0, 1)) (pcN := 11) jI_149_10 rfl rfl rfl ?_
  refine jT_fR [11, 12, 13, 14, 15, 16, 17, 18, 19, 20] 23 (y := 56) (pcN := 14) (dC := 0) (bc1 := 0) (bc2 := 0) (c1 := 1) (c2 := 6) (as := [(4, 11), (0, 1)]) (asC := [(4, 0), (0, 1)]) (LN := [(0, (4, 0)), (1, (0, 1)), (2, (0, x2)), (3, (0, 1))]) (stN := []) (hsC := jpA_1446) (v := (4, 7)) (st2 := [(4, 18)]) (jA_56_357 (d := 0)) (by rfl) (by rfl) (by decide +kernel) (by rfl) (by rfl) (by omega) (by omega) (by omega) (by omega) rfl ?_
  refine jT_xastore (v := (4, 18)) (LN := [(4, (4, 18)), (0, (4, 0)), (1, (0, 1)), (2, (0, x2)), (3, (0, 1))]) (pcN := 16) jI_149_14 rfl rfl rfl rfl ?_
  refine jT_xaload_n (v := (4, 0)) (pcN := 17) jI_149_16 rfl rfl rfl ?_
  refine jT_xiload_n (v := (0, x2)) (pcN := 18) jI_149_17 rfl rfl rfl ?_
  refine jT_xaload (v := (4, 18)) (pcN := 20) jI_149_18 rfl rfl rfl ?_
  refine jT_fR [18, 21, 22] 23 (y := 29) (pcN := 23) (dC := 0) (bc1 := 0) (bc2 := 0) (c1 := 1) (c2 := 6) (as := [(4, 18)]) (asC := [(4, 0)]) (LN := [(4, (4, 18)), (0, (4, 0)), (1, (0, 1)), (2, (0, x2)), (3, (0, 1))]) (stN := [(0, x2), (4, 0)]) (hsC := [(7, [(4, 1), (4, (-1)), (4, (-1))], []), (114, [], [2]), jgh]) (v := (0, 1)) (st2 := [(0, 1), (0, x2), (4, 0)]) (jA_29_416 (d := 0)) (by rfl) (by rfl) (by decide +kernel) (by rfl) (by rfl) (by omega) (by omega) (by omega) (by omega) rfl ?_
  exact jT_fX [0] 23 (y := 115) (pcN := 26) (dC := 0) (bc1 := 1) (bc2 := 6) (as := [(4, 0), (0, x2), (0, 1)]) (asC := [(4, 0), (0, x2), (0, 1)]) (LN := [(4, (4, 18)), (0, (4, 0)), (1, (0, 1)), (2, (0, x2)), (3, (0, 1))]) (stN := []) (hsC := [jgh]) (e := 0) (jA_115_453 (d := 0) (by omega)) (by rfl) (by rfl) (by decide +kernel) (by rfl) (by rfl) (by omega) (by omega) (by omega) (by omega) ⟨rfl, ⟨rfl, rfl, rfl⟩⟩
theorem jA_354_930 {xs : List Int} {d : Nat} {x2 : Int} (h_x2 : 1 ≤ x2 ∧ x2 ≤ 2147483647) : jT xs (d + 2) 354 24 0 [(0, (4, 0)), (1, (0, 1)), (2, (0, x2)), (3, (0, 1)), (4, (4, 1))] [] jpA_1846 1 6 (fun k v hsN => k = 0 ∧ v = (0, 1) ∧ hsN = jpA_1846 ++ []) := by
  refine jT_xaload (v := (4, 1)) (pcN := 2) jI_354_0 rfl rfl rfl ?_
  refine jT_xiconst (k := 0) (pcN := 3) jI_354_2 rfl ?_
  refine jT_xaload_n (v := (4, 0)) (pcN := 4) jI_354_3 rfl rfl rfl ?_
  refine jT_xiload_n (v := (0, 1)) (pcN := 5) jI_354_4 rfl rfl rfl ?_
  refine jT_xiload_n (v := (0, x2)) (pcN := 6) jI_354_5 rfl rfl rfl ?_
  refine jT_xiload_n (v := (0, 1)) (pcN := 7) jI_354_6 rfl rfl rfl ?_
  exact jT_fX [0, 2, 3, 4, 5, 6, 7, 8, 9, 10, 11, 12, 13, 14, 15, 16, 17, 18, 19, 20, 21, 22, 23] 24 (y := 149) (pcN := 10) (dC := 1) (bc1 := 1) (bc2 := 6) (as := [(4, 0), (0, 1), (0, x2), (0, 1)]) (asC := [(4, 0), (0, 1), (0, x2), (0, 1)]) (LN := [(0, (4, 0)), (1, (0, 1)), (2, (0, x2)), (3, (0, 1)), (4, (4, 1))]) (stN := [(0, 0), (4, 1)]) (hsC := jpA_1845) (e := 0) (jA_149_929 (d := 0) (by omega)) (by rfl) (by rfl) (by decide +kernel) (by rfl) (by rfl) (by omega) (by omega) (by omega) (by omega) (show _ from ⟨rfl, rfl, rfl⟩)
theorem jA_279_931 {xs : List Int} {d : Nat} {x2 : Int} (h_x2 : 1 ≤ x2 ∧ x2 ≤ 2147483647) : jT xs (d + 2) 279 16 0 [(0, (4, 0)), (1, (0, 1)), (2, (0, x2)), (3, (0, 1))] [] jpA_1519 0 0 (fun k v hsN => k = 0 ∧ v = (0, 0) ∧ hsN = jpA_1820) := by
  refine jT_xaload_n (v := (4, 0)) (pcN := 1) jI_279_0 rfl rfl rfl ?_
  refine jT_xiload_n (v := (0, 1)) (pcN := 2) jI_279_1 rfl rfl rfl ?_
  refine jT_fR [] 16 (y := 238) (pcN := 5) (dC := 1) (bc1 := 0) (bc2 := 0) (c1 := 0) (c2 := 0) (as := [(0, 1)]) (asC := [(0, 1)]) (LN := [(0, (4, 0)), (1, (0, 1)), (2, (0, x2)), (3, (0, 1))]) (stN := [(4, 0)]) (hsC := []) (v := (0, 1)) (st2 := [(0, 1), (4, 0)]) (jA_238_362 (d := 0)) (by rfl) (by rfl) (by decide +kernel) (by rfl) (by rfl) (by omega) (by omega) (by omega) (by omega) rfl ?_
  refine jT_fR [0, 1, 2, 3, 4, 5, 6, 7, 8, 9, 10, 11, 12, 13, 14, 15] 16 (y := 190) (pcN := 8) (dC := 1) (bc1 := 0) (bc2 := 0) (c1 := 0) (c2 := 0) (as := [(4, 0), (0, 1)]) (asC := [(4, 0), (0, 1)]) (LN := [(0, (4, 0)), (1, (0, 1)), (2, (0, x2)), (3, (0, 1))]) (stN := []) (hsC := jpA_22) (v := (0, 0)) (st2 := [(0, 0)]) (jA_190_39 (d := 0)) (by rfl) (by rfl) (by decide +kernel) (by rfl) (by rfl) (by omega) (by omega) (by omega) (by omega) rfl ?_
  refine jT_xifF (t := 25) (pcN := 11) jI_279_8 rfl (by decide +kernel) rfl rfl ?_
  refine jT_xaload_n (v := (4, 0)) (pcN := 12) jI_279_11 rfl rfl rfl ?_
  refine jT_xaload_n (v := (4, 0)) (pcN := 13) jI_279_12 rfl rfl rfl ?_
  refine jT_xiload_n (v := (0, 1)) (pcN := 14) jI_279_13 rfl rfl rfl ?_
  refine jT_xiload_n (v := (0, x2)) (pcN := 15) jI_279_14 rfl rfl rfl ?_
  refine jT_fR [0, 1, 2, 3, 4, 5, 6, 7, 8, 9, 10, 11, 12, 13, 14, 15] 16 (y := 247) (pcN := 18) (dC := 1) (bc1 := 0) (bc2 := 0) (c1 := 0) (c2 := 0) (as := [(4, 0), (0, 1), (0, x2)]) (asC := [(4, 0), (0, 1), (0, x2)]) (LN := [(0, (4, 0)), (1, (0, 1)), (2, (0, x2)), (3, (0, 1))]) (stN := [(4, 0)]) (hsC := jpA_1519) (v := (0, 0)) (st2 := [(0, 0), (4, 0)]) (jA_247_470 (d := 0) (by omega)) (by rfl) (by rfl) (by decide +kernel) (by rfl) (by rfl) (by omega) (by omega) (by omega) (by omega) rfl ?_
  refine jT_xiconst (k := 1) (pcN := 19) jI_279_18 rfl ?_
  refine jT_fB [0, 1, 2, 3, 4, 5, 6, 7, 8, 9, 10, 11, 12, 13, 14, 15] 16 (y := 191) (pcN := 22) (dC := 0) (bc1 := 0) (bc2 := 0) (c1 := 0) (c2 := 0) (as := [(4, 0), (0, 0), (0, 1)]) (asC := [(4, 0), (0, 0), (0, 1)]) (LN := [(0, (4, 0)), (1, (0, 1)), (2, (0, x2)), (3, (0, 1))]) (stN := []) (hsC := jpA_22) (hsD := jpA_20) (v := (0, 1)) (st2 := [(0, 1)]) (hs2 := jpA_1820) (jA_191_5 (d := 0)) (by rfl) (by rfl) (by decide +kernel) (by rfl) (by rfl) (by omega) (by omega) (by omega) (by omega) rfl (by decide +kernel) ?_
  refine jT_xifF (t := 27) (pcN := 25) jI_279_22 rfl (by decide +kernel) rfl rfl ?_
  refine jT_xiconst (k := 0) (pcN := 26) jI_279_25 rfl ?_
  exact jT_ret rfl (by decide) (by show 16 ≤ 16; decide) (by omega) (by omega) ⟨rfl, rfl, rfl⟩
theorem jA_149_932 {xs : List Int} {d : Nat} {x2 : Int} (h_x2 : (-2147483648) ≤ x2 ∧ x2 ≤ (-1)) : jT xs (d + 1) 149 23 0 [(0, (4, 0)), (1, (0, 2)), (2, (0, x2)), (3, (0, 1))] [] jpA_1858 1 6 (fun k v hsN => k = 1 ∧ v = (0, 0) ∧ hsN = jpA_1858 ++ []) := by
  refine jT_xaload_n (v := (4, 0)) (pcN := 1) jI_149_0 rfl rfl rfl ?_
  refine jT_xiload_n (v := (0, 2)) (pcN := 2) jI_149_1 rfl rfl rfl ?_
  refine jT_xiconst (k := 4) (pcN := 3) jI_149_2 rfl ?_
  refine jT_fR [0] 23 (y := 115) (pcN := 6) (dC := 0) (bc1 := 0) (bc2 := 0) (c1 := 1) (c2 := 6) (as := [(4, 0), (0, 2), (0, 4)]) (asC := [(4, 0), (0, 2), (0, 4)]) (LN := [(0, (4, 0)), (1, (0, 2)), (2, (0, x2)), (3, (0, 1))]) (stN := []) (hsC := [jgh]) (v := (9, 0)) (st2 := []) (jA_115_372 (d := 0)) (by rfl) (by rfl) (by decide +kernel) (by rfl) (by rfl) (by omega) (by omega) (by omega) (by omega) rfl ?_
  refine jT_xaload_n (v := (4, 0)) (pcN := 7) jI_149_6 rfl rfl rfl ?_
  refine jT_xgetf (a := 0) (t := 1) (ci := 13) (fi := 11) (c := jzA_5) (v := (4, 11)) (pcN := 10) jI_149_7 rfl rfl rfl rfl rfl rfl rfl ?_
  refine jT_xiload_n (v := (0, 2)) (pcN := 11) jI_149_10 rfl rfl rfl ?_
  refine jT_fR [11, 12, 13, 14, 15, 16, 17, 18, 19, 20] 23 (y := 56) (pcN := 14) (dC := 0) (bc1 := 0) (bc2 := 0) (c1 := 1) (c2 := 6) (as := [(4, 11), (0, 2)]) (asC := [(4, 0), (0, 2)]) (LN := [(0, (4, 0)), (1, (0, 2)), (2, (0, x2)), (3, (0, 1))]) (stN := []) (hsC := jpA_1446) (v := (4, 8)) (st2 := [(4, 19)]) (jA_56_373 (d := 0)) (by rfl) (by rfl) (by decide +kernel) (by rfl) (by rfl) (by omega) (by omega) (by omega) (by omega) rfl ?_
  refine jT_xastore (v := (4, 19)) (LN := [(4, (4, 19)), (0, (4, 0)), (1, (0, 2)), (2, (0, x2)), (3, (0, 1))]) (pcN := 16) jI_149_14 rfl rfl rfl rfl ?_
  refine jT_xaload_n (v := (4, 0)) (pcN := 17) jI_149_16 rfl rfl rfl ?_
  refine jT_xiload_n (v := (0, x2)) (pcN := 18) jI_149_17 rfl rfl rfl ?_
  refine jT_xaload (v := (4, 19)) (pcN := 20) jI_149_18 rfl rfl rfl ?_
  refine jT_fR [19, 21, 22] 23 (y := 29) (pcN := 23) (dC := 0) (bc1 := 0) (bc2 := 0) (c1 := 1) (c2 := 6) (as := [(4, 19)]) (asC := [(4, 0)]) (LN := [(4, (4, 19)), (0, (4, 0)), (1, (0, 2)), (2, (0, x2)), (3, (0, 1))]) (stN := [(0, x2), (4, 0)]) (hsC := [(7, [(4, 1), (4, (-1)), (4, (-1))], []), (114, [], [2]), jgh]) (v := (0, 1)) (st2 := [(0, 1), (0, x2), (4, 0)]) (jA_29_416 (d := 0)) (by rfl) (by rfl) (by decide +kernel) (by rfl) (by rfl) (by omega) (by omega) (by omega) (by omega) rfl ?_
  exact jT_fX [0] 23 (y := 115) (pcN := 26) (dC := 0) (bc1 := 1) (bc2 := 6) (as := [(4, 0), (0, x2), (0, 1)]) (asC := [(4, 0), (0, x2), (0, 1)]) (LN := [(4, (4, 19)), (0, (4, 0)), (1, (0, 2)), (2, (0, x2)), (3, (0, 1))]) (stN := []) (hsC := [jgh]) (e := 0) (jA_115_438 (d := 0) (by omega)) (by rfl) (by rfl) (by decide +kernel) (by rfl) (by rfl) (by omega) (by omega) (by omega) (by omega) ⟨rfl, ⟨rfl, rfl, rfl⟩⟩
theorem jA_354_933 {xs : List Int} {d : Nat} {x2 : Int} (h_x2 : (-2147483648) ≤ x2 ∧ x2 ≤ (-1)) : jT xs (d + 2) 354 24 0 [(0, (4, 0)), (1, (0, 2)), (2, (0, x2)), (3, (0, 1)), (4, (4, 1))] [] jpA_1859 1 6 (fun k v hsN => k = 0 ∧ v = (0, 1) ∧ hsN = jpA_1859 ++ []) := by
  refine jT_xaload (v := (4, 1)) (pcN := 2) jI_354_0 rfl rfl rfl ?_
  refine jT_xiconst (k := 0) (pcN := 3) jI_354_2 rfl ?_
  refine jT_xaload_n (v := (4, 0)) (pcN := 4) jI_354_3 rfl rfl rfl ?_
  refine jT_xiload_n (v := (0, 2)) (pcN := 5) jI_354_4 rfl rfl rfl ?_
  refine jT_xiload_n (v := (0, x2)) (pcN := 6) jI_354_5 rfl rfl rfl ?_
  refine jT_xiload_n (v := (0, 1)) (pcN := 7) jI_354_6 rfl rfl rfl ?_
  exact jT_fX [0, 2, 3, 4, 5, 6, 7, 8, 9, 10, 11, 12, 13, 14, 15, 16, 17, 18, 19, 20, 21, 22, 23] 24 (y := 149) (pcN := 10) (dC := 1) (bc1 := 1) (bc2 := 6) (as := [(4, 0), (0, 2), (0, x2), (0, 1)]) (asC := [(4, 0), (0, 2), (0, x2), (0, 1)]) (LN := [(0, (4, 0)), (1, (0, 2)), (2, (0, x2)), (3, (0, 1)), (4, (4, 1))]) (stN := [(0, 0), (4, 1)]) (hsC := jpA_1858) (e := 0) (jA_149_932 (d := 0) (by omega)) (by rfl) (by rfl) (by decide +kernel) (by rfl) (by rfl) (by omega) (by omega) (by omega) (by omega) (show _ from ⟨rfl, rfl, rfl⟩)
theorem jA_279_934 {xs : List Int} {d : Nat} {x2 : Int} (h_x2 : (-2147483648) ≤ x2 ∧ x2 ≤ (-1)) : jT xs (d + 2) 279 16 0 [(0, (4, 0)), (1, (0, 2)), (2, (0, x2)), (3, (0, 1))] [] jpA_1519 0 0 (fun k v hsN => k = 0 ∧ v = (0, 0) ∧ hsN = jpA_1820) := by
  refine jT_xaload_n (v := (4, 0)) (pcN := 1) jI_279_0 rfl rfl rfl ?_
  refine jT_xiload_n (v := (0, 2)) (pcN := 2) jI_279_1 rfl rfl rfl ?_
  refine jT_fR [] 16 (y := 238) (pcN := 5) (dC := 1) (bc1 := 0) (bc2 := 0) (c1 := 0) (c2 := 0) (as := [(0, 2)]) (asC := [(0, 2)]) (LN := [(0, (4, 0)), (1, (0, 2)), (2, (0, x2)), (3, (0, 1))]) (stN := [(4, 0)]) (hsC := []) (v := (0, 1)) (st2 := [(0, 1), (4, 0)]) (jA_238_378 (d := 0)) (by rfl) (by rfl) (by decide +kernel) (by rfl) (by rfl) (by omega) (by omega) (by omega) (by omega) rfl ?_
  refine jT_fR [0, 1, 2, 3, 4, 5, 6, 7, 8, 9, 10, 11, 12, 13, 14, 15] 16 (y := 190) (pcN := 8) (dC := 1) (bc1 := 0) (bc2 := 0) (c1 := 0) (c2 := 0) (as := [(4, 0), (0, 1)]) (asC := [(4, 0), (0, 1)]) (LN := [(0, (4, 0)), (1, (0, 2)), (2, (0, x2)), (3, (0, 1))]) (stN := []) (hsC := jpA_22) (v := (0, 0)) (st2 := [(0, 0)]) (jA_190_39 (d := 0)) (by rfl) (by rfl) (by decide +kernel) (by rfl) (by rfl) (by omega) (by omega) (by omega) (by omega) rfl ?_
  refine jT_xifF (t := 25) (pcN := 11) jI_279_8 rfl (by decide +kernel) rfl rfl ?_
  refine jT_xaload_n (v := (4, 0)) (pcN := 12) jI_279_11 rfl rfl rfl ?_
  refine jT_xaload_n (v := (4, 0)) (pcN := 13) jI_279_12 rfl rfl rfl ?_
  refine jT_xiload_n (v := (0, 2)) (pcN := 14) jI_279_13 rfl rfl rfl ?_
  refine jT_xiload_n (v := (0, x2)) (pcN := 15) jI_279_14 rfl rfl rfl ?_
  refine jT_fR [0, 1, 2, 3, 4, 5, 6, 7, 8, 9, 10, 11, 12, 13, 14, 15] 16 (y := 247) (pcN := 18) (dC := 1) (bc1 := 0) (bc2 := 0) (c1 := 0) (c2 := 0) (as := [(4, 0), (0, 2), (0, x2)]) (asC := [(4, 0), (0, 2), (0, x2)]) (LN := [(0, (4, 0)), (1, (0, 2)), (2, (0, x2)), (3, (0, 1))]) (stN := [(4, 0)]) (hsC := jpA_1519) (v := (0, 0)) (st2 := [(0, 0), (4, 0)]) (jA_247_474 (d := 0) (by omega)) (by rfl) (by rfl) (by decide +kernel) (by rfl) (by rfl) (by omega) (by omega) (by omega) (by omega) rfl ?_
  refine jT_xiconst (k := 1) (pcN := 19) jI_279_18 rfl ?_
  refine jT_fB [0, 1, 2, 3, 4, 5, 6, 7, 8, 9, 10, 11, 12, 13, 14, 15] 16 (y := 191) (pcN := 22) (dC := 0) (bc1 := 0) (bc2 := 0) (c1 := 0) (c2 := 0) (as := [(4, 0), (0, 0), (0, 1)]) (asC := [(4, 0), (0, 0), (0, 1)]) (LN := [(0, (4, 0)), (1, (0, 2)), (2, (0, x2)), (3, (0, 1))]) (stN := []) (hsC := jpA_22) (hsD := jpA_20) (v := (0, 1)) (st2 := [(0, 1)]) (hs2 := jpA_1820) (jA_191_5 (d := 0)) (by rfl) (by rfl) (by decide +kernel) (by rfl) (by rfl) (by omega) (by omega) (by omega) (by omega) rfl (by decide +kernel) ?_
  refine jT_xifF (t := 27) (pcN := 25) jI_279_22 rfl (by decide +kernel) rfl rfl ?_
  refine jT_xiconst (k := 0) (pcN := 26) jI_279_25 rfl ?_
  exact jT_ret rfl (by decide) (by show 16 ≤ 16; decide) (by omega) (by omega) ⟨rfl, rfl, rfl⟩
def jpA_3642 : List JC := [jzA_5, (8, [(4, 12), (4, 13)], []), jgh, jgh, jgh, jgh, jgh, jgh, jgh, jgh, jgh, jzA_640, jgh, jgh, jgh, (117, [], [19, 20, 21, 22]), jgh, jgh, jgh, jgh, jgh, (7, [(4, 23), (4, (-1)), (4, (-1))], []), jgh, (114, [], [24]), (4, [(4, 25), (1, 1)], []), (101, [], [0, 0, 0, 0, 0, 0])]
def jpA_3643 : List JC := [jzA_5, (8, [(4, 12), (4, 13)], []), jgh, jgh, jgh, jgh, jgh, jgh, jgh, jgh, jgh, jzA_640, jgh, jgh, jgh, (117, [], [19, 20, 21, 22]), jgh, jgh, jgh, jgh, jgh, (7, [(4, 23), (4, 26), (4, (-1))], []), jgh, (114, [], [24]), (4, [(4, 25), (1, 1)], []), (101, [], [0, 0, 0, 0, 0, 0]), (114, [], [30]), (101, [], [0, 0, 0, 0, 0, 0]), (4, [(4, 27), (1, 1)], []), (101, [], [1, 0, 0, 0, 0, 0]), (4, [(4, 29), (1, 1)], [])]
theorem jA_149_935 {xs : List Int} {d : Nat} : jT xs (d + 5) 149 26 0 [(0, (4, 0)), (1, (0, 2)), (2, (0, 0)), (3, (0, 1))] [] jpA_3642 5 17 (fun k v hsN => k = 0 ∧ v = (0, 1200) ∧ hsN = jpA_3643) := by
  refine jT_advK 3 (pcN := 3) (LN := [(0, (4, 0)), (1, (0, 2)), (2, (0, 0)), (3, (0, 1))]) (stN := [(0, 4), (0, 2), (4, 0)]) (hsN := jpA_3642) (c1 := 0) (s1 := 0) (c2 := 5) (s2 := 17) (by decide +kernel) ?_ (by omega) (by omega)
  refine jT_fR [0] 26 (y := 115) (pcN := 6) (dC := 0) (bc1 := 0) (bc2 := 0) (c1 := 5) (c2 := 17) (as := [(4, 0), (0, 2), (0, 4)]) (asC := [(4, 0), (0, 2), (0, 4)]) (LN := [(0, (4, 0)), (1, (0, 2)), (2, (0, 0)), (3, (0, 1))]) (stN := []) (hsC := [jgh]) (v := (9, 0)) (st2 := []) (jA_115_372 (d := 0)) (by rfl) (by rfl) (by decide +kernel) (by rfl) (by rfl) (by omega) (by omega) (by omega) (by omega) rfl ?_
  refine jT_advK 3 (pcN := 11) (LN := [(0, (4, 0)), (1, (0, 2)), (2, (0, 0)), (3, (0, 1))]) (stN := [(0, 2), (4, 11)]) (hsN := jpA_3642) (c1 := 0) (s1 := 0) (c2 := 5) (s2 := 17) (by decide +kernel) ?_ (by omega) (by omega)
  refine jT_fR [11, 14, 15, 16, 17, 18, 19, 20, 21, 22] 26 (y := 56) (pcN := 14) (dC := 0) (bc1 := 0) (bc2 := 0) (c1 := 5) (c2 := 17) (as := [(4, 11), (0, 2)]) (asC := [(4, 0), (0, 2)]) (LN := [(0, (4, 0)), (1, (0, 2)), (2, (0, 0)), (3, (0, 1))]) (stN := []) (hsC := jpA_1446) (v := (4, 8)) (st2 := [(4, 21)]) (jA_56_373 (d := 0)) (by rfl) (by rfl) (by decide +kernel) (by rfl) (by rfl) (by omega) (by omega) (by omega) (by omega) rfl ?_
  refine jT_advK 4 (pcN := 20) (LN := [(4, (4, 21)), (0, (4, 0)), (1, (0, 2)), (2, (0, 0)), (3, (0, 1))]) (stN := [(4, 21), (0, 0), (4, 0)]) (hsN := jpA_3642) (c1 := 0) (s1 := 0) (c2 := 5) (s2 := 17) (by decide +kernel) ?_ (by omega) (by omega)
  refine jT_fR [21, 23, 24] 26 (y := 29) (pcN := 23) (dC := 0) (bc1 := 0) (bc2 := 0) (c1 := 5) (c2 := 17) (as := [(4, 21)]) (asC := [(4, 0)]) (LN := [(4, (4, 21)), (0, (4, 0)), (1, (0, 2)), (2, (0, 0)), (3, (0, 1))]) (stN := [(0, 0), (4, 0)]) (hsC := [(7, [(4, 1), (4, (-1)), (4, (-1))], []), (114, [], [2]), jgh]) (v := (0, 1)) (st2 := [(0, 1), (0, 0), (4, 0)]) (jA_29_416 (d := 0)) (by rfl) (by rfl) (by decide +kernel) (by rfl) (by rfl) (by omega) (by omega) (by omega) (by omega) rfl ?_
  refine jT_fR [0] 26 (y := 115) (pcN := 26) (dC := 0) (bc1 := 0) (bc2 := 0) (c1 := 5) (c2 := 17) (as := [(4, 0), (0, 0), (0, 1)]) (asC := [(4, 0), (0, 0), (0, 1)]) (LN := [(4, (4, 21)), (0, (4, 0)), (1, (0, 2)), (2, (0, 0)), (3, (0, 1))]) (stN := []) (hsC := [jgh]) (v := (9, 0)) (st2 := []) (jA_115_443 (d := 0)) (by rfl) (by rfl) (by decide +kernel) (by rfl) (by rfl) (by omega) (by omega) (by omega) (by omega) rfl ?_
  refine jT_advK 6 (pcN := 37) (LN := [(4, (4, 21)), (0, (4, 0)), (1, (0, 2)), (2, (0, 0)), (3, (0, 1))]) (stN := [(0, 0), (4, 21), (4, 1)]) (hsN := jpA_3642) (c1 := 0) (s1 := 0) (c2 := 5) (s2 := 17) (by decide +kernel) ?_ (by omega) (by omega)
  refine jT_fB [21, 23, 24, 25] 26 (y := 31) (pcN := 40) (dC := 4) (bc1 := 5) (bc2 := 17) (c1 := 0) (c2 := 0) (as := [(4, 21), (0, 0)]) (asC := [(4, 0), (0, 0)]) (LN := [(4, (4, 21)), (0, (4, 0)), (1, (0, 2)), (2, (0, 0)), (3, (0, 1))]) (stN := [(4, 1)]) (hsC := jpA_1822) (hsD := jpA_3610) (v := (4, 8)) (st2 := [(4, 30), (4, 1)]) (hs2 := jpA_3643) (jA_31_897 (d := 0)) (by rfl) (by rfl) (by decide +kernel) (by rfl) (by rfl) (by omega) (by omega) (by omega) (by omega) rfl (by decide +kernel) ?_
  refine jT_advK 2 (pcN := 52) (LN := [(4, (4, 21)), (0, (4, 0)), (1, (0, 2)), (2, (0, 0)), (3, (0, 1))]) (stN := [(1, 1200), (4, 30), (4, 1)]) (hsN := jpA_3643) (c1 := 0) (s1 := 0) (c2 := 0) (s2 := 0) (by decide +kernel) ?_ (by omega) (by omega)
  refine jT_fR [1, 30, 12, 13, 29] 31 (y := 43) (pcN := 55) (dC := 3) (bc1 := 0) (bc2 := 0) (c1 := 0) (c2 := 0) (as := [(4, 1), (4, 30), (1, 1200)]) (asC := [(4, 0), (4, 1), (1, 1200)]) (LN := [(4, (4, 21)), (0, (4, 0)), (1, (0, 2)), (2, (0, 0)), (3, (0, 1))]) (stN := []) (hsC := jpA_3612) (v := (1, 1200)) (st2 := [(1, 1200)]) (jA_43_904 (d := 0)) (by rfl) (by rfl) (by decide +kernel) (by rfl) (by rfl) (by omega) (by omega) (by omega) (by omega) rfl ?_
  refine jT_advK 1 (pcN := 56) (LN := [(4, (4, 21)), (0, (4, 0)), (1, (0, 2)), (2, (0, 0)), (3, (0, 1))]) (stN := [(0, 1200)]) (hsN := jpA_3643) (c1 := 0) (s1 := 0) (c2 := 0) (s2 := 0) (by decide +kernel) ?_ (by omega) (by omega)
  exact jT_ret rfl (by decide) (by show 26 ≤ 31; decide) (by omega) (by omega) ⟨rfl, rfl, rfl⟩
def jpA_3644 : List JC := [jzA_14, (101, [], [0]), (8, [(4, 13), (4, 14)], []), jgh, jgh, jgh, jgh, jgh, jgh, jgh, jgh, jgh, jzA_659, jgh, jgh, jgh, (117, [], [20, 21, 22, 23]), jgh, jgh, jgh, jgh, jgh, (7, [(4, 24), (4, (-1)), (4, (-1))], []), jgh, (114, [], [25]), (4, [(4, 26), (1, 1)], []), (101, [], [0, 0, 0, 0, 0, 0])]
def jpA_3645 : List JC := [jzA_14, (101, [], [0]), (8, [(4, 13), (4, 14)], []), jgh, jgh, jgh, jgh, jgh, jgh, jgh, jgh, jgh, jzA_659, jgh, jgh, jgh, (117, [], [20, 21, 22, 23]), jgh, jgh, jgh, jgh, jgh, (7, [(4, 24), (4, 27), (4, (-1))], []), jgh, (114, [], [25]), (4, [(4, 26), (1, 1)], []), (101, [], [0, 0, 0, 0, 0, 0]), (114, [], [31]), (101, [], [0, 0, 0, 0, 0, 0]), (4, [(4, 28), (1, 1)], []), (101, [], [1, 0, 0, 0, 0, 0]), (4, [(4, 30), (1, 1)], [])]
def jpA_3646 : List JC := [jzA_14, (101, [], [1200]), (8, [(4, 13), (4, 14)], []), jgh, jgh, jgh, jgh, jgh, jgh, jgh, jgh, jgh, jzA_659, jgh, jgh, jgh, (117, [], [20, 21, 22, 23]), jgh, jgh, jgh, jgh, jgh, (7, [(4, 24), (4, 27), (4, (-1))], []), jgh, (114, [], [25]), (4, [(4, 26), (1, 1)], []), (101, [], [0, 0, 0, 0, 0, 0]), (114, [], [31]), (101, [], [0, 0, 0, 0, 0, 0]), (4, [(4, 28), (1, 1)], []), (101, [], [1, 0, 0, 0, 0, 0]), (4, [(4, 30), (1, 1)], [])]
theorem jA_354_936 {xs : List Int} {d : Nat} : jT xs (d + 6) 354 27 0 [(0, (4, 0)), (1, (0, 2)), (2, (0, 0)), (3, (0, 1)), (4, (4, 1))] [] jpA_3644 5 17 (fun k v hsN => k = 0 ∧ v = (0, 0) ∧ hsN = jpA_3646) := by
  refine jT_advK 6 (pcN := 7) (LN := [(0, (4, 0)), (1, (0, 2)), (2, (0, 0)), (3, (0, 1)), (4, (4, 1))]) (stN := [(0, 1), (0, 0), (0, 2), (4, 0), (0, 0), (4, 1)]) (hsN := jpA_3644) (c1 := 0) (s1 := 0) (c2 := 5) (s2 := 17) (by decide +kernel) ?_ (by omega) (by omega)
  refine jT_fB [0, 2, 3, 4, 5, 6, 7, 8, 9, 10, 11, 12, 13, 14, 15, 16, 17, 18, 19, 20, 21, 22, 23, 24, 25, 26] 27 (y := 149) (pcN := 10) (dC := 5) (bc1 := 5) (bc2 := 17) (c1 := 0) (c2 := 0) (as := [(4, 0), (0, 2), (0, 0), (0, 1)]) (asC := [(4, 0), (0, 2), (0, 0), (0, 1)]) (LN := [(0, (4, 0)), (1, (0, 2)), (2, (0, 0)), (3, (0, 1)), (4, (4, 1))]) (stN := [(0, 0), (4, 1)]) (hsC := jpA_3642) (hsD := jpA_3643) (v := (0, 1200)) (st2 := [(0, 1200), (0, 0), (4, 1)]) (hs2 := jpA_3645) (jA_149_935 (d := 0)) (by rfl) (by rfl) (by decide +kernel) (by rfl) (by rfl) (by omega) (by omega) (by omega) (by omega) rfl (by decide +kernel) ?_
  refine jT_advK 4 (pcN := 20) (LN := [(0, (4, 0)), (1, (0, 2)), (2, (0, 0)), (3, (0, 1)), (4, (4, 1))]) (stN := [(0, 0)]) (hsN := jpA_3646) (c1 := 0) (s1 := 0) (c2 := 0) (s2 := 0) (by decide +kernel) ?_ (by omega) (by omega)
  exact jT_ret rfl (by decide) (by show 27 ≤ 32; decide) (by omega) (by omega) ⟨rfl, rfl, rfl⟩
theorem jA_204_937 {xs : List Int} {d : Nat} : jT xs (d + 3) 204 16 0 [(0, (4, 0)), (1, (4, 1)), (2, (0, 619)), (3, (1, (-1)))] [] jpA_3619 0 0 (fun k v hsN => k = 0 ∧ v = (9, 0) ∧ hsN = jpA_3619 ++ []) := by
  refine jT_advK 4 (pcN := 5) (LN := [(0, (4, 0)), (1, (4, 1)), (2, (0, 619)), (3, (1, (-1)))]) (stN := [(0, 625), (4, 1)]) (hsN := jpA_3619) (c1 := 0) (s1 := 0) (c2 := 0) (s2 := 0) (by decide +kernel) ?_ (by omega) (by omega)
  refine jT_iald (x := 1) (a := 1) (j := 625) (fs := []) (X := jS0) (by rfl) (by rfl) (by rfl) (by rfl) (by decide +kernel) ?_
  refine jT_eq (LN := [(0, (4, 0)), (1, (4, 1)), (2, (0, 619)), (3, (1, (-1)))]) (stN := [(0, 1)]) (hsN := jpA_3619) rfl rfl rfl ?_
  refine jT_advK 7 (pcN := 19) (LN := [(5, (1, 1)), (0, (4, 0)), (1, (4, 1)), (2, (0, 619)), (3, (1, (-1)))]) (stN := [(1, 1), (1, 1), (1, 1)]) (hsN := jpA_3619) (c1 := 0) (s1 := 0) (c2 := 0) (s2 := 0) (by decide +kernel) ?_ (by omega) (by omega)
  refine jT_fR [] 16 (y := 194) (pcN := 22) (dC := 1) (bc1 := 0) (bc2 := 0) (c1 := 0) (c2 := 0) (as := [(1, 1), (1, 1)]) (asC := [(1, 1), (1, 1)]) (LN := [(5, (1, 1)), (0, (4, 0)), (1, (4, 1)), (2, (0, 619)), (3, (1, (-1)))]) (stN := [(1, 1)]) (hsC := []) (v := (1, 1)) (st2 := [(1, 1), (1, 1)]) (jA_194_43 (d := 0)) (by rfl) (by rfl) (by decide +kernel) (by rfl) (by rfl) (by omega) (by omega) (by omega) (by omega) rfl ?_
  refine jT_advK 26 (pcN := 65) (LN := [(9, (0, 0)), (7, (1, 1)), (5, (1, 1)), (0, (4, 0)), (1, (4, 1)), (2, (0, 619)), (3, (1, (-1)))]) (stN := [(0, 619), (4, 1), (1, (-1)), (1, 1), (0, 0), (4, 7)]) (hsN := jpA_3619) (c1 := 0) (s1 := 0) (c2 := 0) (s2 := 0) (by decide +kernel) ?_ (by omega) (by omega)
  refine jT_iald (x := 0) (a := 1) (j := 619) (fs := []) (X := jS0) (by rfl) (by rfl) (by rfl) (by rfl) (by decide +kernel) ?_
  refine jT_eq (LN := [(9, (0, 0)), (7, (1, 1)), (5, (1, 1)), (0, (4, 0)), (1, (4, 1)), (2, (0, 619)), (3, (1, (-1)))]) (stN := [(0, 0), (1, (-1)), (1, 1), (0, 0), (4, 7)]) (hsN := jpA_3619) rfl rfl rfl ?_
  refine jT_advK 30 (pcN := 65) (LN := [(9, (0, 1)), (7, (1, 1)), (5, (1, 1)), (0, (4, 0)), (1, (4, 1)), (2, (0, 619)), (3, (1, (-1)))]) (stN := [(0, 620), (4, 1), (1, (-1)), (1, 0), (0, 1), (4, 7)]) (hsN := jpA_3619) (c1 := 0) (s1 := 0) (c2 := 0) (s2 := 0) (by decide +kernel) ?_ (by omega) (by omega)
  refine jT_iald (x := 0) (a := 1) (j := 620) (fs := []) (X := jS0) (by rfl) (by rfl) (by rfl) (by rfl) (by decide +kernel) ?_
  refine jT_eq (LN := [(9, (0, 1)), (7, (1, 1)), (5, (1, 1)), (0, (4, 0)), (1, (4, 1)), (2, (0, 619)), (3, (1, (-1)))]) (stN := [(0, 0), (1, (-1)), (1, 0), (0, 1), (4, 7)]) (hsN := jpA_3619) rfl rfl rfl ?_
  refine jT_advK 30 (pcN := 65) (LN := [(9, (0, 2)), (7, (1, 1)), (5, (1, 1)), (0, (4, 0)), (1, (4, 1)), (2, (0, 619)), (3, (1, (-1)))]) (stN := [(0, 621), (4, 1), (1, (-1)), (1, 0), (0, 2), (4, 7)]) (hsN := jpA_3619) (c1 := 0) (s1 := 0) (c2 := 0) (s2 := 0) (by decide +kernel) ?_ (by omega) (by omega)
  refine jT_iald (x := 0) (a := 1) (j := 621) (fs := []) (X := jS0) (by rfl) (by rfl) (by rfl) (by rfl) (by decide +kernel) ?_
  refine jT_eq (LN := [(9, (0, 2)), (7, (1, 1)), (5, (1, 1)), (0, (4, 0)), (1, (4, 1)), (2, (0, 619)), (3, (1, (-1)))]) (stN := [(0, 0), (1, (-1)), (1, 0), (0, 2), (4, 7)]) (hsN := jpA_3619) rfl rfl rfl ?_
  refine jT_advK 30 (pcN := 65) (LN := [(9, (0, 3)), (7, (1, 1)), (5, (1, 1)), (0, (4, 0)), (1, (4, 1)), (2, (0, 619)), (3, (1, (-1)))]) (stN := [(0, 622), (4, 1), (1, (-1)), (1, 0), (0, 3), (4, 7)]) (hsN := jpA_3619) (c1 := 0) (s1 := 0) (c2 := 0) (s2 := 0) (by decide +kernel) ?_ (by omega) (by omega)
  refine jT_iald (x := 0) (a := 1) (j := 622) (fs := []) (X := jS0) (by rfl) (by rfl) (by rfl) (by rfl) (by decide +kernel) ?_
  refine jT_eq (LN := [(9, (0, 3)), (7, (1, 1)), (5, (1, 1)), (0, (4, 0)), (1, (4, 1)), (2, (0, 619)), (3, (1, (-1)))]) (stN := [(0, 0), (1, (-1)), (1, 0), (0, 3), (4, 7)]) (hsN := jpA_3619) rfl rfl rfl ?_
  refine jT_advK 30 (pcN := 65) (LN := [(9, (0, 4)), (7, (1, 1)), (5, (1, 1)), (0, (4, 0)), (1, (4, 1)), (2, (0, 619)), (3, (1, (-1)))]) (stN := [(0, 623), (4, 1), (1, (-1)), (1, 0), (0, 4), (4, 7)]) (hsN := jpA_3619) (c1 := 0) (s1 := 0) (c2 := 0) (s2 := 0) (by decide +kernel) ?_ (by omega) (by omega)
  refine jT_iald (x := 0) (a := 1) (j := 623) (fs := []) (X := jS0) (by rfl) (by rfl) (by rfl) (by rfl) (by decide +kernel) ?_
  refine jT_eq (LN := [(9, (0, 4)), (7, (1, 1)), (5, (1, 1)), (0, (4, 0)), (1, (4, 1)), (2, (0, 619)), (3, (1, (-1)))]) (stN := [(0, 0), (1, (-1)), (1, 0), (0, 4), (4, 7)]) (hsN := jpA_3619) rfl rfl rfl ?_
  refine jT_advK 30 (pcN := 65) (LN := [(9, (0, 5)), (7, (1, 1)), (5, (1, 1)), (0, (4, 0)), (1, (4, 1)), (2, (0, 619)), (3, (1, (-1)))]) (stN := [(0, 624), (4, 1), (1, (-1)), (1, 0), (0, 5), (4, 7)]) (hsN := jpA_3619) (c1 := 0) (s1 := 0) (c2 := 0) (s2 := 0) (by decide +kernel) ?_ (by omega) (by omega)
  refine jT_iald (x := 0) (a := 1) (j := 624) (fs := []) (X := jS0) (by rfl) (by rfl) (by rfl) (by rfl) (by decide +kernel) ?_
  refine jT_eq (LN := [(9, (0, 5)), (7, (1, 1)), (5, (1, 1)), (0, (4, 0)), (1, (4, 1)), (2, (0, 619)), (3, (1, (-1)))]) (stN := [(0, 0), (1, (-1)), (1, 0), (0, 5), (4, 7)]) (hsN := jpA_3619) rfl rfl rfl ?_
  refine jT_advK 17 (pcN := 89) (LN := [(9, (0, 6)), (7, (1, 1)), (5, (1, 1)), (0, (4, 0)), (1, (4, 1)), (2, (0, 619)), (3, (1, (-1)))]) (stN := [(4, 0)]) (hsN := jpA_3619) (c1 := 0) (s1 := 0) (c2 := 0) (s2 := 0) (by decide +kernel) ?_ (by omega) (by omega)
  refine jT_fR [0, 1, 2, 3, 4, 5, 6, 7, 8, 9, 10, 11, 12, 13, 14, 15] 16 (y := 199) (pcN := 92) (dC := 2) (bc1 := 0) (bc2 := 0) (c1 := 0) (c2 := 0) (as := [(4, 0)]) (asC := [(4, 0)]) (LN := [(9, (0, 6)), (7, (1, 1)), (5, (1, 1)), (0, (4, 0)), (1, (4, 1)), (2, (0, 619)), (3, (1, (-1)))]) (stN := []) (hsC := jpA_3618) (v := (9, 0)) (st2 := []) (jA_199_907 (d := 0)) (by rfl) (by rfl) (by decide +kernel) (by rfl) (by rfl) (by omega) (by omega) (by omega) (by omega) rfl ?_
  exact jT_ret rfl (by decide) (by show 16 ≤ 16; decide) (by omega) (by omega) ⟨rfl, rfl, rfl⟩
theorem jA_280_938 {xs : List Int} {d : Nat} : jT xs (d + 4) 280 16 0 [(0, (4, 0)), (1, (0, 2)), (2, (0, 0))] [] jpA_130 0 0 (fun k v hsN => k = 0 ∧ v = (9, 0) ∧ hsN = jpA_3619) := by
  refine jT_advK 5 (pcN := 5) (LN := [(0, (4, 0)), (1, (0, 2)), (2, (0, 0))]) (stN := [(0, 2), (4, 0), (0, 1)]) (hsN := jpA_130) (c1 := 0) (s1 := 0) (c2 := 0) (s2 := 0) (by decide +kernel) ?_ (by omega) (by omega)
  refine jT_fR [0, 1, 2, 3, 4, 5, 6, 7, 8, 9, 10, 11, 12, 13, 14, 15] 16 (y := 245) (pcN := 8) (dC := 0) (bc1 := 0) (bc2 := 0) (c1 := 0) (c2 := 0) (as := [(4, 0), (0, 2)]) (asC := [(4, 0), (0, 2)]) (LN := [(0, (4, 0)), (1, (0, 2)), (2, (0, 0))]) (stN := [(0, 1)]) (hsC := jpA_1519) (v := (0, 1)) (st2 := [(0, 1), (0, 1)]) (jA_245_379 (d := 0)) (by rfl) (by rfl) (by decide +kernel) (by rfl) (by rfl) (by omega) (by omega) (by omega) (by omega) rfl ?_
  refine jT_advK 7 (pcN := 17) (LN := [(3, (0, 0)), (0, (4, 0)), (1, (0, 2)), (2, (0, 0))]) (stN := [(0, 0), (0, 2), (4, 1), (4, 0)]) (hsN := jpA_130) (c1 := 0) (s1 := 0) (c2 := 0) (s2 := 0) (by decide +kernel) ?_ (by omega) (by omega)
  refine jT_fR [] 16 (y := 242) (pcN := 20) (dC := 0) (bc1 := 0) (bc2 := 0) (c1 := 0) (c2 := 0) (as := [(0, 2), (0, 0)]) (asC := [(0, 2), (0, 0)]) (LN := [(3, (0, 0)), (0, (4, 0)), (1, (0, 2)), (2, (0, 0))]) (stN := [(4, 1), (4, 0)]) (hsC := []) (v := (0, 619)) (st2 := [(0, 619), (4, 1), (4, 0)]) (jA_242_380 (d := 0)) (by rfl) (by rfl) (by decide +kernel) (by rfl) (by rfl) (by omega) (by omega) (by omega) (by omega) rfl ?_
  refine jT_fR [0, 1, 2, 3, 4, 5, 6, 7, 8, 9, 10, 11, 12, 13, 14, 15] 16 (y := 203) (pcN := 23) (dC := 0) (bc1 := 0) (bc2 := 0) (c1 := 0) (c2 := 0) (as := [(4, 0), (4, 1), (0, 619)]) (asC := [(4, 0), (4, 1), (0, 619)]) (LN := [(3, (0, 0)), (0, (4, 0)), (1, (0, 2)), (2, (0, 0))]) (stN := []) (hsC := jpA_130) (v := (9, 0)) (st2 := []) (jA_203_383 (d := 0)) (by rfl) (by rfl) (by decide +kernel) (by rfl) (by rfl) (by omega) (by omega) (by omega) (by omega) rfl ?_
  refine jT_advK 16 (pcN := 47) (LN := [(3, (0, 0)), (0, (4, 0)), (1, (0, 2)), (2, (0, 0))]) (stN := [(0, 0), (0, 2), (4, 1), (4, 0)]) (hsN := jpA_3619) (c1 := 0) (s1 := 0) (c2 := 0) (s2 := 0) (by decide +kernel) ?_ (by omega) (by omega)
  refine jT_fR [] 16 (y := 242) (pcN := 50) (dC := 0) (bc1 := 0) (bc2 := 0) (c1 := 0) (c2 := 0) (as := [(0, 2), (0, 0)]) (asC := [(0, 2), (0, 0)]) (LN := [(3, (0, 0)), (0, (4, 0)), (1, (0, 2)), (2, (0, 0))]) (stN := [(4, 1), (4, 0)]) (hsC := []) (v := (0, 619)) (st2 := [(0, 619), (4, 1), (4, 0)]) (jA_242_380 (d := 0)) (by rfl) (by rfl) (by decide +kernel) (by rfl) (by rfl) (by omega) (by omega) (by omega) (by omega) rfl ?_
  refine jT_advK 1 (pcN := 53) (LN := [(3, (0, 0)), (0, (4, 0)), (1, (0, 2)), (2, (0, 0))]) (stN := [(1, (-1)), (0, 619), (4, 1), (4, 0)]) (hsN := jpA_3619) (c1 := 0) (s1 := 0) (c2 := 0) (s2 := 0) (by decide +kernel) ?_ (by omega) (by omega)
  refine jT_fR [0, 1, 2, 3, 4, 5, 6, 7, 8, 9, 10, 11, 12, 13, 14, 15] 16 (y := 204) (pcN := 56) (dC := 3) (bc1 := 0) (bc2 := 0) (c1 := 0) (c2 := 0) (as := [(4, 0), (4, 1), (0, 619), (1, (-1))]) (asC := [(4, 0), (4, 1), (0, 619), (1, (-1))]) (LN := [(3, (0, 0)), (0, (4, 0)), (1, (0, 2)), (2, (0, 0))]) (stN := []) (hsC := jpA_3619) (v := (9, 0)) (st2 := []) (jA_204_937 (d := 0)) (by rfl) (by rfl) (by decide +kernel) (by rfl) (by rfl) (by omega) (by omega) (by omega) (by omega) rfl ?_
  exact jT_ret rfl (by decide) (by show 16 ≤ 16; decide) (by omega) (by omega) ⟨rfl, rfl, rfl⟩
theorem jA_279_939 {xs : List Int} {d : Nat} : jT xs (d + 8) 279 22 0 [(0, (4, 0)), (1, (0, 2)), (2, (0, 0)), (3, (0, 1))] [] jpA_1695 10 360 (fun k v hsN => k = 0 ∧ v = (0, 1200) ∧ hsN = jpA_3636) := by
  refine jT_advK 2 (pcN := 2) (LN := [(0, (4, 0)), (1, (0, 2)), (2, (0, 0)), (3, (0, 1))]) (stN := [(0, 2), (4, 0)]) (hsN := jpA_1695) (c1 := 0) (s1 := 0) (c2 := 10) (s2 := 360) (by decide +kernel) ?_ (by omega) (by omega)
  refine jT_fR [] 22 (y := 238) (pcN := 5) (dC := 1) (bc1 := 0) (bc2 := 0) (c1 := 10) (c2 := 360) (as := [(0, 2)]) (asC := [(0, 2)]) (LN := [(0, (4, 0)), (1, (0, 2)), (2, (0, 0)), (3, (0, 1))]) (stN := [(4, 0)]) (hsC := []) (v := (0, 1)) (st2 := [(0, 1), (4, 0)]) (jA_238_378 (d := 0)) (by rfl) (by rfl) (by decide +kernel) (by rfl) (by rfl) (by omega) (by omega) (by omega) (by omega) rfl ?_
  refine jT_fR [0, 1, 2, 3, 4, 5, 6, 7, 8, 9, 10, 11, 12, 13, 14, 15] 22 (y := 190) (pcN := 8) (dC := 1) (bc1 := 0) (bc2 := 0) (c1 := 10) (c2 := 360) (as := [(4, 0), (0, 1)]) (asC := [(4, 0), (0, 1)]) (LN := [(0, (4, 0)), (1, (0, 2)), (2, (0, 0)), (3, (0, 1))]) (stN := []) (hsC := jpA_22) (v := (0, 0)) (st2 := [(0, 0)]) (jA_190_39 (d := 0)) (by rfl) (by rfl) (by decide +kernel) (by rfl) (by rfl) (by omega) (by omega) (by omega) (by omega) rfl ?_
  refine jT_advK 5 (pcN := 15) (LN := [(0, (4, 0)), (1, (0, 2)), (2, (0, 0)), (3, (0, 1))]) (stN := [(0, 0), (0, 2), (4, 0), (4, 0)]) (hsN := jpA_1695) (c1 := 0) (s1 := 0) (c2 := 10) (s2 := 360) (by decide +kernel) ?_ (by omega) (by omega)
  refine jT_fR [0, 1, 2, 3, 4, 5, 6, 7, 8, 9, 10, 11, 12, 13, 14, 15] 22 (y := 247) (pcN := 18) (dC := 1) (bc1 := 0) (bc2 := 0) (c1 := 10) (c2 := 360) (as := [(4, 0), (0, 2), (0, 0)]) (asC := [(4, 0), (0, 2), (0, 0)]) (LN := [(0, (4, 0)), (1, (0, 2)), (2, (0, 0)), (3, (0, 1))]) (stN := [(4, 0)]) (hsC := jpA_1519) (v := (0, 1)) (st2 := [(0, 1), (4, 0)]) (jA_247_478 (d := 0)) (by rfl) (by rfl) (by decide +kernel) (by rfl) (by rfl) (by omega) (by omega) (by omega) (by omega) rfl ?_
  refine jT_advK 1 (pcN := 19) (LN := [(0, (4, 0)), (1, (0, 2)), (2, (0, 0)), (3, (0, 1))]) (stN := [(0, 1), (0, 1), (4, 0)]) (hsN := jpA_1695) (c1 := 0) (s1 := 0) (c2 := 10) (s2 := 360) (by decide +kernel) ?_ (by omega) (by omega)
  refine jT_fR [0] 22 (y := 191) (pcN := 22) (dC := 0) (bc1 := 0) (bc2 := 0) (c1 := 10) (c2 := 360) (as := [(4, 0), (0, 1), (0, 1)]) (asC := [(4, 0), (0, 1), (0, 1)]) (LN := [(0, (4, 0)), (1, (0, 2)), (2, (0, 0)), (3, (0, 1))]) (stN := []) (hsC := [jgh]) (v := (0, 0)) (st2 := [(0, 0)]) (jA_191_38 (d := 0)) (by rfl) (by rfl) (by decide +kernel) (by rfl) (by rfl) (by omega) (by omega) (by omega) (by omega) rfl ?_
  refine jT_advK 6 (pcN := 34) (LN := [(0, (4, 0)), (1, (0, 2)), (2, (0, 0)), (3, (0, 1))]) (stN := [(0, 0), (0, 2), (4, 0)]) (hsN := jpA_1695) (c1 := 0) (s1 := 0) (c2 := 10) (s2 := 360) (by decide +kernel) ?_ (by omega) (by omega)
  refine jT_fB [0, 1, 2, 3, 4, 5, 6, 7, 8, 9, 10, 11, 12, 13, 14, 15] 22 (y := 280) (pcN := 37) (dC := 4) (bc1 := 0) (bc2 := 0) (c1 := 10) (c2 := 360) (as := [(4, 0), (0, 2), (0, 0)]) (asC := [(4, 0), (0, 2), (0, 0)]) (LN := [(0, (4, 0)), (1, (0, 2)), (2, (0, 0)), (3, (0, 1))]) (stN := []) (hsC := jpA_130) (hsD := jpA_3619) (v := (9, 0)) (st2 := []) (hs2 := jpA_3635) (jA_280_938 (d := 0)) (by rfl) (by rfl) (by decide +kernel) (by rfl) (by rfl) (by omega) (by omega) (by omega) (by omega) rfl (by decide +kernel) ?_
  refine jT_advK 4 (pcN := 56) (LN := [(0, (4, 0)), (1, (0, 2)), (2, (0, 0)), (3, (0, 1))]) (stN := [(0, 2), (1, 1), (4, 0)]) (hsN := jpA_3635) (c1 := 0) (s1 := 0) (c2 := 10) (s2 := 360) (by decide +kernel) ?_ (by omega) (by omega)
  refine jT_fA [0, 1, 2, 3, 4, 5, 6, 7, 8, 9, 10, 11, 12, 13, 14, 15, 16, 17, 18, 19, 20, 21] 22 (y := 265) (pcN := 59) (dC := 7) (bc1 := 10) (bc2 := 360) (c1 := 0) (c2 := 0) (as := [(4, 0), (1, 1), (0, 2)]) (asC := [(4, 0), (1, 1), (0, 2)]) (LN := [(0, (4, 0)), (1, (0, 2)), (2, (0, 0)), (3, (0, 1))]) (stN := []) (hsC := jpA_3631) (ex := jpA_3634) (v := (1, 1200)) (st2 := [(1, 1200)]) (hs2 := jpA_3636) (jA_265_916 (d := 0)) (by rfl) (by rfl) (by decide +kernel) (by rfl) (by rfl) (by omega) (by omega) (by omega) (by omega) rfl (by decide +kernel) ?_
  refine jT_advK 1 (pcN := 60) (LN := [(0, (4, 0)), (1, (0, 2)), (2, (0, 0)), (3, (0, 1))]) (stN := [(0, 1200)]) (hsN := jpA_3636) (c1 := 0) (s1 := 0) (c2 := 0) (s2 := 0) (by decide +kernel) ?_ (by omega) (by omega)
  exact jT_ret rfl (by decide) (by show 22 ≤ 32; decide) (by omega) (by omega) ⟨rfl, rfl, rfl⟩
theorem jA_149_940 {xs : List Int} {d : Nat} {x2 : Int} (h_x2 : 1 ≤ x2 ∧ x2 ≤ 2147483647) : jT xs (d + 1) 149 23 0 [(0, (4, 0)), (1, (0, 2)), (2, (0, x2)), (3, (0, 1))] [] jpA_1858 1 6 (fun k v hsN => k = 1 ∧ v = (0, 0) ∧ hsN = jpA_1858 ++ []) := by
  refine jT_xaload_n (v := (4, 0)) (pcN := 1) jI_149_0 rfl rfl rfl ?_
  refine jT_xiload_n (v := (0, 2)) (pcN := 2) jI_149_1 rfl rfl rfl ?_
  refine jT_xiconst (k := 4) (pcN := 3) jI_149_2 rfl ?_
  refine jT_fR [0] 23 (y := 115) (pcN := 6) (dC := 0) (bc1 := 0) (bc2 := 0) (c1 := 1) (c2 := 6) (as := [(4, 0), (0, 2), (0, 4)]) (asC := [(4, 0), (0, 2), (0, 4)]) (LN := [(0, (4, 0)), (1, (0, 2)), (2, (0, x2)), (3, (0, 1))]) (stN := []) (hsC := [jgh]) (v := (9, 0)) (st2 := []) (jA_115_372 (d := 0)) (by rfl) (by rfl) (by decide +kernel) (by rfl) (by rfl) (by omega) (by omega) (by omega) (by omega) rfl ?_
  refine jT_xaload_n (v := (4, 0)) (pcN := 7) jI_149_6 rfl rfl rfl ?_
  refine jT_xgetf (a := 0) (t := 1) (ci := 13) (fi := 11) (c := jzA_5) (v := (4, 11)) (pcN := 10) jI_149_7 rfl rfl rfl rfl rfl rfl rfl ?_
  refine jT_xiload_n (v := (0, 2)) (pcN := 11) jI_149_10 rfl rfl rfl ?_
  refine jT_fR [11, 12, 13, 14, 15, 16, 17, 18, 19, 20] 23 (y := 56) (pcN := 14) (dC := 0) (bc1 := 0) (bc2 := 0) (c1 := 1) (c2 := 6) (as := [(4, 11), (0, 2)]) (asC := [(4, 0), (0, 2)]) (LN := [(0, (4, 0)), (1, (0, 2)), (2, (0, x2)), (3, (0, 1))]) (stN := []) (hsC := jpA_1446) (v := (4, 8)) (st2 := [(4, 19)]) (jA_56_373 (d := 0)) (by rfl) (by rfl) (by decide +kernel) (by rfl) (by rfl) (by omega) (by omega) (by omega) (by omega) rfl ?_
  refine jT_xastore (v := (4, 19)) (LN := [(4, (4, 19)), (0, (4, 0)), (1, (0, 2)), (2, (0, x2)), (3, (0, 1))]) (pcN := 16) jI_149_14 rfl rfl rfl rfl ?_
  refine jT_xaload_n (v := (4, 0)) (pcN := 17) jI_149_16 rfl rfl rfl ?_
  refine jT_xiload_n (v := (0, x2)) (pcN := 18) jI_149_17 rfl rfl rfl ?_
  refine jT_xaload (v := (4, 19)) (pcN := 20) jI_149_18 rfl rfl rfl ?_
  refine jT_fR [19, 21, 22] 23 (y := 29) (pcN := 23) (dC := 0) (bc1 := 0) (bc2 := 0) (c1 := 1) (c2 := 6) (as := [(4, 19)]) (asC := [(4, 0)]) (LN := [(4, (4, 19)), (0, (4, 0)), (1, (0, 2)), (2, (0, x2)), (3, (0, 1))]) (stN := [(0, x2), (4, 0)]) (hsC := [(7, [(4, 1), (4, (-1)), (4, (-1))], []), (114, [], [2]), jgh]) (v := (0, 1)) (st2 := [(0, 1), (0, x2), (4, 0)]) (jA_29_416 (d := 0)) (by rfl) (by rfl) (by decide +kernel) (by rfl) (by rfl) (by omega) (by omega) (by omega) (by omega) rfl ?_
  exact jT_fX [0] 23 (y := 115) (pcN := 26) (dC := 0) (bc1 := 1) (bc2 := 6) (as := [(4, 0), (0, x2), (0, 1)]) (asC := [(4, 0), (0, x2), (0, 1)]) (LN := [(4, (4, 19)), (0, (4, 0)), (1, (0, 2)), (2, (0, x2)), (3, (0, 1))]) (stN := []) (hsC := [jgh]) (e := 0) (jA_115_453 (d := 0) (by omega)) (by rfl) (by rfl) (by decide +kernel) (by rfl) (by rfl) (by omega) (by omega) (by omega) (by omega) ⟨rfl, ⟨rfl, rfl, rfl⟩⟩
theorem jA_354_941 {xs : List Int} {d : Nat} {x2 : Int} (h_x2 : 1 ≤ x2 ∧ x2 ≤ 2147483647) : jT xs (d + 2) 354 24 0 [(0, (4, 0)), (1, (0, 2)), (2, (0, x2)), (3, (0, 1)), (4, (4, 1))] [] jpA_1859 1 6 (fun k v hsN => k = 0 ∧ v = (0, 1) ∧ hsN = jpA_1859 ++ []) := by
  refine jT_xaload (v := (4, 1)) (pcN := 2) jI_354_0 rfl rfl rfl ?_
  refine jT_xiconst (k := 0) (pcN := 3) jI_354_2 rfl ?_
  refine jT_xaload_n (v := (4, 0)) (pcN := 4) jI_354_3 rfl rfl rfl ?_
  refine jT_xiload_n (v := (0, 2)) (pcN := 5) jI_354_4 rfl rfl rfl ?_
  refine jT_xiload_n (v := (0, x2)) (pcN := 6) jI_354_5 rfl rfl rfl ?_
  refine jT_xiload_n (v := (0, 1)) (pcN := 7) jI_354_6 rfl rfl rfl ?_
  exact jT_fX [0, 2, 3, 4, 5, 6, 7, 8, 9, 10, 11, 12, 13, 14, 15, 16, 17, 18, 19, 20, 21, 22, 23] 24 (y := 149) (pcN := 10) (dC := 1) (bc1 := 1) (bc2 := 6) (as := [(4, 0), (0, 2), (0, x2), (0, 1)]) (asC := [(4, 0), (0, 2), (0, x2), (0, 1)]) (LN := [(0, (4, 0)), (1, (0, 2)), (2, (0, x2)), (3, (0, 1)), (4, (4, 1))]) (stN := [(0, 0), (4, 1)]) (hsC := jpA_1858) (e := 0) (jA_149_940 (d := 0) (by omega)) (by rfl) (by rfl) (by decide +kernel) (by rfl) (by rfl) (by omega) (by omega) (by omega) (by omega) (show _ from ⟨rfl, rfl, rfl⟩)
theorem jA_279_942 {xs : List Int} {d : Nat} {x2 : Int} (h_x2 : 1 ≤ x2 ∧ x2 ≤ 2147483647) : jT xs (d + 2) 279 16 0 [(0, (4, 0)), (1, (0, 2)), (2, (0, x2)), (3, (0, 1))] [] jpA_1519 0 0 (fun k v hsN => k = 0 ∧ v = (0, 0) ∧ hsN = jpA_1820) := by
  refine jT_xaload_n (v := (4, 0)) (pcN := 1) jI_279_0 rfl rfl rfl ?_
  refine jT_xiload_n (v := (0, 2)) (pcN := 2) jI_279_1 rfl rfl rfl ?_
  refine jT_fR [] 16 (y := 238) (pcN := 5) (dC := 1) (bc1 := 0) (bc2 := 0) (c1 := 0) (c2 := 0) (as := [(0, 2)]) (asC := [(0, 2)]) (LN := [(0, (4, 0)), (1, (0, 2)), (2, (0, x2)), (3, (0, 1))]) (stN := [(4, 0)]) (hsC := []) (v := (0, 1)) (st2 := [(0, 1), (4, 0)]) (jA_238_378 (d := 0)) (by rfl) (by rfl) (by decide +kernel) (by rfl) (by rfl) (by omega) (by omega) (by omega) (by omega) rfl ?_
  refine jT_fR [0, 1, 2, 3, 4, 5, 6, 7, 8, 9, 10, 11, 12, 13, 14, 15] 16 (y := 190) (pcN := 8) (dC := 1) (bc1 := 0) (bc2 := 0) (c1 := 0) (c2 := 0) (as := [(4, 0), (0, 1)]) (asC := [(4, 0), (0, 1)]) (LN := [(0, (4, 0)), (1, (0, 2)), (2, (0, x2)), (3, (0, 1))]) (stN := []) (hsC := jpA_22) (v := (0, 0)) (st2 := [(0, 0)]) (jA_190_39 (d := 0)) (by rfl) (by rfl) (by decide +kernel) (by rfl) (by rfl) (by omega) (by omega) (by omega) (by omega) rfl ?_
  refine jT_xifF (t := 25) (pcN := 11) jI_279_8 rfl (by decide +kernel) rfl rfl ?_
  refine jT_xaload_n (v := (4, 0)) (pcN := 12) jI_279_11 rfl rfl rfl ?_
  refine jT_xaload_n (v := (4, 0)) (pcN := 13) jI_279_12 rfl rfl rfl ?_
  refine jT_xiload_n (v := (0, 2)) (pcN := 14) jI_279_13 rfl rfl rfl ?_
  refine jT_xiload_n (v := (0, x2)) (pcN := 15) jI_279_14 rfl rfl rfl ?_
  refine jT_fR [0, 1, 2, 3, 4, 5, 6, 7, 8, 9, 10, 11, 12, 13, 14, 15] 16 (y := 247) (pcN := 18) (dC := 1) (bc1 := 0) (bc2 := 0) (c1 := 0) (c2 := 0) (as := [(4, 0), (0, 2), (0, x2)]) (asC := [(4, 0), (0, 2), (0, x2)]) (LN := [(0, (4, 0)), (1, (0, 2)), (2, (0, x2)), (3, (0, 1))]) (stN := [(4, 0)]) (hsC := jpA_1519) (v := (0, 0)) (st2 := [(0, 0), (4, 0)]) (jA_247_484 (d := 0) (by omega)) (by rfl) (by rfl) (by decide +kernel) (by rfl) (by rfl) (by omega) (by omega) (by omega) (by omega) rfl ?_
  refine jT_xiconst (k := 1) (pcN := 19) jI_279_18 rfl ?_
  refine jT_fB [0, 1, 2, 3, 4, 5, 6, 7, 8, 9, 10, 11, 12, 13, 14, 15] 16 (y := 191) (pcN := 22) (dC := 0) (bc1 := 0) (bc2 := 0) (c1 := 0) (c2 := 0) (as := [(4, 0), (0, 0), (0, 1)]) (asC := [(4, 0), (0, 0), (0, 1)]) (LN := [(0, (4, 0)), (1, (0, 2)), (2, (0, x2)), (3, (0, 1))]) (stN := []) (hsC := jpA_22) (hsD := jpA_20) (v := (0, 1)) (st2 := [(0, 1)]) (hs2 := jpA_1820) (jA_191_5 (d := 0)) (by rfl) (by rfl) (by decide +kernel) (by rfl) (by rfl) (by omega) (by omega) (by omega) (by omega) rfl (by decide +kernel) ?_
  refine jT_xifF (t := 27) (pcN := 25) jI_279_22 rfl (by decide +kernel) rfl rfl ?_
  refine jT_xiconst (k := 0) (pcN := 26) jI_279_25 rfl ?_
  exact jT_ret rfl (by decide) (by show 16 ≤ 16; decide) (by omega) (by omega) ⟨rfl, rfl, rfl⟩
theorem jA_149_943 {xs : List Int} {d : Nat} {x2 : Int} (h_x2 : (-2147483648) ≤ x2 ∧ x2 ≤ (-1)) : jT xs (d + 1) 149 23 0 [(0, (4, 0)), (1, (0, 3)), (2, (0, x2)), (3, (0, 1))] [] jpA_1871 1 6 (fun k v hsN => k = 1 ∧ v = (0, 0) ∧ hsN = jpA_1871 ++ []) := by
  refine jT_xaload_n (v := (4, 0)) (pcN := 1) jI_149_0 rfl rfl rfl ?_
  refine jT_xiload_n (v := (0, 3)) (pcN := 2) jI_149_1 rfl rfl rfl ?_
  refine jT_xiconst (k := 4) (pcN := 3) jI_149_2 rfl ?_
  refine jT_fR [0] 23 (y := 115) (pcN := 6) (dC := 0) (bc1 := 0) (bc2 := 0) (c1 := 1) (c2 := 6) (as := [(4, 0), (0, 3), (0, 4)]) (asC := [(4, 0), (0, 3), (0, 4)]) (LN := [(0, (4, 0)), (1, (0, 3)), (2, (0, x2)), (3, (0, 1))]) (stN := []) (hsC := [jgh]) (v := (9, 0)) (st2 := []) (jA_115_387 (d := 0)) (by rfl) (by rfl) (by decide +kernel) (by rfl) (by rfl) (by omega) (by omega) (by omega) (by omega) rfl ?_
  refine jT_xaload_n (v := (4, 0)) (pcN := 7) jI_149_6 rfl rfl rfl ?_
  refine jT_xgetf (a := 0) (t := 1) (ci := 13) (fi := 11) (c := jzA_5) (v := (4, 11)) (pcN := 10) jI_149_7 rfl rfl rfl rfl rfl rfl rfl ?_
  refine jT_xiload_n (v := (0, 3)) (pcN := 11) jI_149_10 rfl rfl rfl ?_
  refine jT_fR [11, 12, 13, 14, 15, 16, 17, 18, 19, 20] 23 (y := 56) (pcN := 14) (dC := 0) (bc1 := 0) (bc2 := 0) (c1 := 1) (c2 := 6) (as := [(4, 11), (0, 3)]) (asC := [(4, 0), (0, 3)]) (LN := [(0, (4, 0)), (1, (0, 3)), (2, (0, x2)), (3, (0, 1))]) (stN := []) (hsC := jpA_1446) (v := (4, 9)) (st2 := [(4, 20)]) (jA_56_388 (d := 0)) (by rfl) (by rfl) (by decide +kernel) (by rfl) (by rfl) (by omega) (by omega) (by omega) (by omega) rfl ?_
  refine jT_xastore (v := (4, 20)) (LN := [(4, (4, 20)), (0, (4, 0)), (1, (0, 3)), (2, (0, x2)), (3, (0, 1))]) (pcN := 16) jI_149_14 rfl rfl rfl rfl ?_
  refine jT_xaload_n (v := (4, 0)) (pcN := 17) jI_149_16 rfl rfl rfl ?_
  refine jT_xiload_n (v := (0, x2)) (pcN := 18) jI_149_17 rfl rfl rfl ?_
  refine jT_xaload (v := (4, 20)) (pcN := 20) jI_149_18 rfl rfl rfl ?_
  refine jT_fR [20, 21, 22] 23 (y := 29) (pcN := 23) (dC := 0) (bc1 := 0) (bc2 := 0) (c1 := 1) (c2 := 6) (as := [(4, 20)]) (asC := [(4, 0)]) (LN := [(4, (4, 20)), (0, (4, 0)), (1, (0, 3)), (2, (0, x2)), (3, (0, 1))]) (stN := [(0, x2), (4, 0)]) (hsC := [(7, [(4, 1), (4, (-1)), (4, (-1))], []), (114, [], [2]), jgh]) (v := (0, 1)) (st2 := [(0, 1), (0, x2), (4, 0)]) (jA_29_416 (d := 0)) (by rfl) (by rfl) (by decide +kernel) (by rfl) (by rfl) (by omega) (by omega) (by omega) (by omega) rfl ?_
  exact jT_fX [0] 23 (y := 115) (pcN := 26) (dC := 0) (bc1 := 1) (bc2 := 6) (as := [(4, 0), (0, x2), (0, 1)]) (asC := [(4, 0), (0, x2), (0, 1)]) (LN := [(4, (4, 20)), (0, (4, 0)), (1, (0, 3)), (2, (0, x2)), (3, (0, 1))]) (stN := []) (hsC := [jgh]) (e := 0) (jA_115_438 (d := 0) (by omega)) (by rfl) (by rfl) (by decide +kernel) (by rfl) (by rfl) (by omega) (by omega) (by omega) (by omega) ⟨rfl, ⟨rfl, rfl, rfl⟩⟩
theorem jA_354_944 {xs : List Int} {d : Nat} {x2 : Int} (h_x2 : (-2147483648) ≤ x2 ∧ x2 ≤ (-1)) : jT xs (d + 2) 354 24 0 [(0, (4, 0)), (1, (0, 3)), (2, (0, x2)), (3, (0, 1)), (4, (4, 1))] [] jpA_1872 1 6 (fun k v hsN => k = 0 ∧ v = (0, 1) ∧ hsN = jpA_1872 ++ []) := by
  refine jT_xaload (v := (4, 1)) (pcN := 2) jI_354_0 rfl rfl rfl ?_
  refine jT_xiconst (k := 0) (pcN := 3) jI_354_2 rfl ?_
  refine jT_xaload_n (v := (4, 0)) (pcN := 4) jI_354_3 rfl rfl rfl ?_
  refine jT_xiload_n (v := (0, 3)) (pcN := 5) jI_354_4 rfl rfl rfl ?_
  refine jT_xiload_n (v := (0, x2)) (pcN := 6) jI_354_5 rfl rfl rfl ?_
  refine jT_xiload_n (v := (0, 1)) (pcN := 7) jI_354_6 rfl rfl rfl ?_
  exact jT_fX [0, 2, 3, 4, 5, 6, 7, 8, 9, 10, 11, 12, 13, 14, 15, 16, 17, 18, 19, 20, 21, 22, 23] 24 (y := 149) (pcN := 10) (dC := 1) (bc1 := 1) (bc2 := 6) (as := [(4, 0), (0, 3), (0, x2), (0, 1)]) (asC := [(4, 0), (0, 3), (0, x2), (0, 1)]) (LN := [(0, (4, 0)), (1, (0, 3)), (2, (0, x2)), (3, (0, 1)), (4, (4, 1))]) (stN := [(0, 0), (4, 1)]) (hsC := jpA_1871) (e := 0) (jA_149_943 (d := 0) (by omega)) (by rfl) (by rfl) (by decide +kernel) (by rfl) (by rfl) (by omega) (by omega) (by omega) (by omega) (show _ from ⟨rfl, rfl, rfl⟩)
theorem jA_279_945 {xs : List Int} {d : Nat} {x2 : Int} (h_x2 : (-2147483648) ≤ x2 ∧ x2 ≤ (-1)) : jT xs (d + 2) 279 16 0 [(0, (4, 0)), (1, (0, 3)), (2, (0, x2)), (3, (0, 1))] [] jpA_1519 0 0 (fun k v hsN => k = 0 ∧ v = (0, 0) ∧ hsN = jpA_1820) := by
  refine jT_xaload_n (v := (4, 0)) (pcN := 1) jI_279_0 rfl rfl rfl ?_
  refine jT_xiload_n (v := (0, 3)) (pcN := 2) jI_279_1 rfl rfl rfl ?_
  refine jT_fR [] 16 (y := 238) (pcN := 5) (dC := 1) (bc1 := 0) (bc2 := 0) (c1 := 0) (c2 := 0) (as := [(0, 3)]) (asC := [(0, 3)]) (LN := [(0, (4, 0)), (1, (0, 3)), (2, (0, x2)), (3, (0, 1))]) (stN := [(4, 0)]) (hsC := []) (v := (0, 1)) (st2 := [(0, 1), (4, 0)]) (jA_238_393 (d := 0)) (by rfl) (by rfl) (by decide +kernel) (by rfl) (by rfl) (by omega) (by omega) (by omega) (by omega) rfl ?_
  refine jT_fR [0, 1, 2, 3, 4, 5, 6, 7, 8, 9, 10, 11, 12, 13, 14, 15] 16 (y := 190) (pcN := 8) (dC := 1) (bc1 := 0) (bc2 := 0) (c1 := 0) (c2 := 0) (as := [(4, 0), (0, 1)]) (asC := [(4, 0), (0, 1)]) (LN := [(0, (4, 0)), (1, (0, 3)), (2, (0, x2)), (3, (0, 1))]) (stN := []) (hsC := jpA_22) (v := (0, 0)) (st2 := [(0, 0)]) (jA_190_39 (d := 0)) (by rfl) (by rfl) (by decide +kernel) (by rfl) (by rfl) (by omega) (by omega) (by omega) (by omega) rfl ?_
  refine jT_xifF (t := 25) (pcN := 11) jI_279_8 rfl (by decide +kernel) rfl rfl ?_
  refine jT_xaload_n (v := (4, 0)) (pcN := 12) jI_279_11 rfl rfl rfl ?_
  refine jT_xaload_n (v := (4, 0)) (pcN := 13) jI_279_12 rfl rfl rfl ?_
  refine jT_xiload_n (v := (0, 3)) (pcN := 14) jI_279_13 rfl rfl rfl ?_
  refine jT_xiload_n (v := (0, x2)) (pcN := 15) jI_279_14 rfl rfl rfl ?_
  refine jT_fR [0, 1, 2, 3, 4, 5, 6, 7, 8, 9, 10, 11, 12, 13, 14, 15] 16 (y := 247) (pcN := 18) (dC := 1) (bc1 := 0) (bc2 := 0) (c1 := 0) (c2 := 0) (as := [(4, 0), (0, 3), (0, x2)]) (asC := [(4, 0), (0, 3), (0, x2)]) (LN := [(0, (4, 0)), (1, (0, 3)), (2, (0, x2)), (3, (0, 1))]) (stN := [(4, 0)]) (hsC := jpA_1519) (v := (0, 0)) (st2 := [(0, 0), (4, 0)]) (jA_247_488 (d := 0) (by omega)) (by rfl) (by rfl) (by decide +kernel) (by rfl) (by rfl) (by omega) (by omega) (by omega) (by omega) rfl ?_
  refine jT_xiconst (k := 1) (pcN := 19) jI_279_18 rfl ?_
  refine jT_fB [0, 1, 2, 3, 4, 5, 6, 7, 8, 9, 10, 11, 12, 13, 14, 15] 16 (y := 191) (pcN := 22) (dC := 0) (bc1 := 0) (bc2 := 0) (c1 := 0) (c2 := 0) (as := [(4, 0), (0, 0), (0, 1)]) (asC := [(4, 0), (0, 0), (0, 1)]) (LN := [(0, (4, 0)), (1, (0, 3)), (2, (0, x2)), (3, (0, 1))]) (stN := []) (hsC := jpA_22) (hsD := jpA_20) (v := (0, 1)) (st2 := [(0, 1)]) (hs2 := jpA_1820) (jA_191_5 (d := 0)) (by rfl) (by rfl) (by decide +kernel) (by rfl) (by rfl) (by omega) (by omega) (by omega) (by omega) rfl (by decide +kernel) ?_
  refine jT_xifF (t := 27) (pcN := 25) jI_279_22 rfl (by decide +kernel) rfl rfl ?_
  refine jT_xiconst (k := 0) (pcN := 26) jI_279_25 rfl ?_
  exact jT_ret rfl (by decide) (by show 16 ≤ 16; decide) (by omega) (by omega) ⟨rfl, rfl, rfl⟩
def jpA_3647 : List JC := [jzA_5, (8, [(4, 12), (4, 13)], []), jgh, jgh, jgh, jgh, jgh, jgh, jgh, jgh, jgh, jzA_640, jgh, jgh, jgh, (117, [], [19, 20, 21, 22]), jgh, jgh, jgh, jgh, jgh, jgh, (7, [(4, 23), (4, (-1)), (4, (-1))], []), (114, [], [24]), (4, [(4, 25), (1, 1)], []), (101, [], [0, 0, 0, 0, 0, 0])]
def jpA_3648 : List JC := [jzA_5, (8, [(4, 12), (4, 13)], []), jgh, jgh, jgh, jgh, jgh, jgh, jgh, jgh, jgh, jzA_640, jgh, jgh, jgh, (117, [], [19, 20, 21, 22]), jgh, jgh, jgh, jgh, jgh, jgh, (7, [(4, 23), (4, 26), (4, (-1))], []), (114, [], [24]), (4, [(4, 25), (1, 1)], []), (101, [], [0, 0, 0, 0, 0, 0]), (114, [], [30]), (101, [], [0, 0, 0, 0, 0, 0]), (4, [(4, 27), (1, 1)], []), (101, [], [1, 0, 0, 0, 0, 0]), (4, [(4, 29), (1, 1)], [])]
theorem jA_149_946 {xs : List Int} {d : Nat} : jT xs (d + 5) 149 26 0 [(0, (4, 0)), (1, (0, 3)), (2, (0, 0)), (3, (0, 1))] [] jpA_3647 5 17 (fun k v hsN => k = 0 ∧ v = (0, 1200) ∧ hsN = jpA_3648) := by
  refine jT_advK 3 (pcN := 3) (LN := [(0, (4, 0)), (1, (0, 3)), (2, (0, 0)), (3, (0, 1))]) (stN := [(0, 4), (0, 3), (4, 0)]) (hsN := jpA_3647) (c1 := 0) (s1 := 0) (c2 := 5) (s2 := 17) (by decide +kernel) ?_ (by omega) (by omega)
  refine jT_fR [0] 26 (y := 115) (pcN := 6) (dC := 0) (bc1 := 0) (bc2 := 0) (c1 := 5) (c2 := 17) (as := [(4, 0), (0, 3), (0, 4)]) (asC := [(4, 0), (0, 3), (0, 4)]) (LN := [(0, (4, 0)), (1, (0, 3)), (2, (0, 0)), (3, (0, 1))]) (stN := []) (hsC := [jgh]) (v := (9, 0)) (st2 := []) (jA_115_387 (d := 0)) (by rfl) (by rfl) (by decide +kernel) (by rfl) (by rfl) (by omega) (by omega) (by omega) (by omega) rfl ?_
  refine jT_advK 3 (pcN := 11) (LN := [(0, (4, 0)), (1, (0, 3)), (2, (0, 0)), (3, (0, 1))]) (stN := [(0, 3), (4, 11)]) (hsN := jpA_3647) (c1 := 0) (s1 := 0) (c2 := 5) (s2 := 17) (by decide +kernel) ?_ (by omega) (by omega)
  refine jT_fR [11, 14, 15, 16, 17, 18, 19, 20, 21, 22] 26 (y := 56) (pcN := 14) (dC := 0) (bc1 := 0) (bc2 := 0) (c1 := 5) (c2 := 17) (as := [(4, 11), (0, 3)]) (asC := [(4, 0), (0, 3)]) (LN := [(0, (4, 0)), (1, (0, 3)), (2, (0, 0)), (3, (0, 1))]) (stN := []) (hsC := jpA_1446) (v := (4, 9)) (st2 := [(4, 22)]) (jA_56_388 (d := 0)) (by rfl) (by rfl) (by decide +kernel) (by rfl) (by rfl) (by omega) (by omega) (by omega) (by omega) rfl ?_
  refine jT_advK 4 (pcN := 20) (LN := [(4, (4, 22)), (0, (4, 0)), (1, (0, 3)), (2, (0, 0)), (3, (0, 1))]) (stN := [(4, 22), (0, 0), (4, 0)]) (hsN := jpA_3647) (c1 := 0) (s1 := 0) (c2 := 5) (s2 := 17) (by decide +kernel) ?_ (by omega) (by omega)
  refine jT_fR [22, 23, 24] 26 (y := 29) (pcN := 23) (dC := 0) (bc1 := 0) (bc2 := 0) (c1 := 5) (c2 := 17) (as := [(4, 22)]) (asC := [(4, 0)]) (LN := [(4, (4, 22)), (0, (4, 0)), (1, (0, 3)), (2, (0, 0)), (3, (0, 1))]) (stN := [(0, 0), (4, 0)]) (hsC := [(7, [(4, 1), (4, (-1)), (4, (-1))], []), (114, [], [2]), jgh]) (v := (0, 1)) (st2 := [(0, 1), (0, 0), (4, 0)]) (jA_29_416 (d := 0)) (by rfl) (by rfl) (by decide +kernel) (by rfl) (by rfl) (by omega) (by omega) (by omega) (by omega) rfl ?_
  refine jT_fR [0] 26 (y := 115) (pcN := 26) (dC := 0) (bc1 := 0) (bc2 := 0) (c1 := 5) (c2 := 17) (as := [(4, 0), (0, 0), (0, 1)]) (asC := [(4, 0), (0, 0), (0, 1)]) (LN := [(4, (4, 22)), (0, (4, 0)), (1, (0, 3)), (2, (0, 0)), (3, (0, 1))]) (stN := []) (hsC := [jgh]) (v := (9, 0)) (st2 := []) (jA_115_443 (d := 0)) (by rfl) (by rfl) (by decide +kernel) (by rfl) (by rfl) (by omega) (by omega) (by omega) (by omega) rfl ?_
  refine jT_advK 6 (pcN := 37) (LN := [(4, (4, 22)), (0, (4, 0)), (1, (0, 3)), (2, (0, 0)), (3, (0, 1))]) (stN := [(0, 0), (4, 22), (4, 1)]) (hsN := jpA_3647) (c1 := 0) (s1 := 0) (c2 := 5) (s2 := 17) (by decide +kernel) ?_ (by omega) (by omega)
  refine jT_fB [22, 23, 24, 25] 26 (y := 31) (pcN := 40) (dC := 4) (bc1 := 5) (bc2 := 17) (c1 := 0) (c2 := 0) (as := [(4, 22), (0, 0)]) (asC := [(4, 0), (0, 0)]) (LN := [(4, (4, 22)), (0, (4, 0)), (1, (0, 3)), (2, (0, 0)), (3, (0, 1))]) (stN := [(4, 1)]) (hsC := jpA_1822) (hsD := jpA_3610) (v := (4, 8)) (st2 := [(4, 30), (4, 1)]) (hs2 := jpA_3648) (jA_31_897 (d := 0)) (by rfl) (by rfl) (by decide +kernel) (by rfl) (by rfl) (by omega) (by omega) (by omega) (by omega) rfl (by decide +kernel) ?_
  refine jT_advK 2 (pcN := 52) (LN := [(4, (4, 22)), (0, (4, 0)), (1, (0, 3)), (2, (0, 0)), (3, (0, 1))]) (stN := [(1, 1200), (4, 30), (4, 1)]) (hsN := jpA_3648) (c1 := 0) (s1 := 0) (c2 := 0) (s2 := 0) (by decide +kernel) ?_ (by omega) (by omega)
  refine jT_fR [1, 30, 12, 13, 29] 31 (y := 43) (pcN := 55) (dC := 3) (bc1 := 0) (bc2 := 0) (c1 := 0) (c2 := 0) (as := [(4, 1), (4, 30), (1, 1200)]) (asC := [(4, 0), (4, 1), (1, 1200)]) (LN := [(4, (4, 22)), (0, (4, 0)), (1, (0, 3)), (2, (0, 0)), (3, (0, 1))]) (stN := []) (hsC := jpA_3612) (v := (1, 1200)) (st2 := [(1, 1200)]) (jA_43_904 (d := 0)) (by rfl) (by rfl) (by decide +kernel) (by rfl) (by rfl) (by omega) (by omega) (by omega) (by omega) rfl ?_
  refine jT_advK 1 (pcN := 56) (LN := [(4, (4, 22)), (0, (4, 0)), (1, (0, 3)), (2, (0, 0)), (3, (0, 1))]) (stN := [(0, 1200)]) (hsN := jpA_3648) (c1 := 0) (s1 := 0) (c2 := 0) (s2 := 0) (by decide +kernel) ?_ (by omega) (by omega)
  exact jT_ret rfl (by decide) (by show 26 ≤ 31; decide) (by omega) (by omega) ⟨rfl, rfl, rfl⟩
def jpA_3649 : List JC := [jzA_14, (101, [], [0]), (8, [(4, 13), (4, 14)], []), jgh, jgh, jgh, jgh, jgh, jgh, jgh, jgh, jgh, jzA_659, jgh, jgh, jgh, (117, [], [20, 21, 22, 23]), jgh, jgh, jgh, jgh, jgh, jgh, (7, [(4, 24), (4, (-1)), (4, (-1))], []), (114, [], [25]), (4, [(4, 26), (1, 1)], []), (101, [], [0, 0, 0, 0, 0, 0])]
def jpA_3650 : List JC := [jzA_14, (101, [], [0]), (8, [(4, 13), (4, 14)], []), jgh, jgh, jgh, jgh, jgh, jgh, jgh, jgh, jgh, jzA_659, jgh, jgh, jgh, (117, [], [20, 21, 22, 23]), jgh, jgh, jgh, jgh, jgh, jgh, (7, [(4, 24), (4, 27), (4, (-1))], []), (114, [], [25]), (4, [(4, 26), (1, 1)], []), (101, [], [0, 0, 0, 0, 0, 0]), (114, [], [31]), (101, [], [0, 0, 0, 0, 0, 0]), (4, [(4, 28), (1, 1)], []), (101, [], [1, 0, 0, 0, 0, 0]), (4, [(4, 30), (1, 1)], [])]
def jpA_3651 : List JC := [jzA_14, (101, [], [1200]), (8, [(4, 13), (4, 14)], []), jgh, jgh, jgh, jgh, jgh, jgh, jgh, jgh, jgh, jzA_659, jgh, jgh, jgh, (117, [], [20, 21, 22, 23]), jgh, jgh, jgh, jgh, jgh, jgh, (7, [(4, 24), (4, 27), (4, (-1))], []), (114, [], [25]), (4, [(4, 26), (1, 1)], []), (101, [], [0, 0, 0, 0, 0, 0]), (114, [], [31]), (101, [], [0, 0, 0, 0, 0, 0]), (4, [(4, 28), (1, 1)], []), (101, [], [1, 0, 0, 0, 0, 0]), (4, [(4, 30), (1, 1)], [])]
theorem jA_354_947 {xs : List Int} {d : Nat} : jT xs (d + 6) 354 27 0 [(0, (4, 0)), (1, (0, 3)), (2, (0, 0)), (3, (0, 1)), (4, (4, 1))] [] jpA_3649 5 17 (fun k v hsN => k = 0 ∧ v = (0, 0) ∧ hsN = jpA_3651) := by
  refine jT_advK 6 (pcN := 7) (LN := [(0, (4, 0)), (1, (0, 3)), (2, (0, 0)), (3, (0, 1)), (4, (4, 1))]) (stN := [(0, 1), (0, 0), (0, 3), (4, 0), (0, 0), (4, 1)]) (hsN := jpA_3649) (c1 := 0) (s1 := 0) (c2 := 5) (s2 := 17) (by decide +kernel) ?_ (by omega) (by omega)
  refine jT_fB [0, 2, 3, 4, 5, 6, 7, 8, 9, 10, 11, 12, 13, 14, 15, 16, 17, 18, 19, 20, 21, 22, 23, 24, 25, 26] 27 (y := 149) (pcN := 10) (dC := 5) (bc1 := 5) (bc2 := 17) (c1 := 0) (c2 := 0) (as := [(4, 0), (0, 3), (0, 0), (0, 1)]) (asC := [(4, 0), (0, 3), (0, 0), (0, 1)]) (LN := [(0, (4, 0)), (1, (0, 3)), (2, (0, 0)), (3, (0, 1)), (4, (4, 1))]) (stN := [(0, 0), (4, 1)]) (hsC := jpA_3647) (hsD := jpA_3648) (v := (0, 1200)) (st2 := [(0, 1200), (0, 0), (4, 1)]) (hs2 := jpA_3650) (jA_149_946 (d := 0)) (by rfl) (by rfl) (by decide +kernel) (by rfl) (by rfl) (by omega) (by omega) (by omega) (by omega) rfl (by decide +kernel) ?_
  refine jT_advK 4 (pcN := 20) (LN := [(0, (4, 0)), (1, (0, 3)), (2, (0, 0)), (3, (0, 1)), (4, (4, 1))]) (stN := [(0, 0)]) (hsN := jpA_3651) (c1 := 0) (s1 := 0) (c2 := 0) (s2 := 0) (by decide +kernel) ?_ (by omega) (by omega)
  exact jT_ret rfl (by decide) (by show 27 ≤ 32; decide) (by omega) (by omega) ⟨rfl, rfl, rfl⟩
theorem jA_204_948 {xs : List Int} {d : Nat} : jT xs (d + 3) 204 16 0 [(0, (4, 0)), (1, (4, 1)), (2, (0, 900)), (3, (1, (-1)))] [] jpA_3619 0 0 (fun k v hsN => k = 0 ∧ v = (9, 0) ∧ hsN = jpA_3619 ++ []) := by
  refine jT_advK 4 (pcN := 5) (LN := [(0, (4, 0)), (1, (4, 1)), (2, (0, 900)), (3, (1, (-1)))]) (stN := [(0, 906), (4, 1)]) (hsN := jpA_3619) (c1 := 0) (s1 := 0) (c2 := 0) (s2 := 0) (by decide +kernel) ?_ (by omega) (by omega)
  refine jT_iald (x := 1) (a := 1) (j := 906) (fs := []) (X := jS0) (by rfl) (by rfl) (by rfl) (by rfl) (by decide +kernel) ?_
  refine jT_eq (LN := [(0, (4, 0)), (1, (4, 1)), (2, (0, 900)), (3, (1, (-1)))]) (stN := [(0, 1)]) (hsN := jpA_3619) rfl rfl rfl ?_
  refine jT_advK 7 (pcN := 19) (LN := [(5, (1, 1)), (0, (4, 0)), (1, (4, 1)), (2, (0, 900)), (3, (1, (-1)))]) (stN := [(1, 1), (1, 1), (1, 1)]) (hsN := jpA_3619) (c1 := 0) (s1 := 0) (c2 := 0) (s2 := 0) (by decide +kernel) ?_ (by omega) (by omega)
  refine jT_fR [] 16 (y := 194) (pcN := 22) (dC := 1) (bc1 := 0) (bc2 := 0) (c1 := 0) (c2 := 0) (as := [(1, 1), (1, 1)]) (asC := [(1, 1), (1, 1)]) (LN := [(5, (1, 1)), (0, (4, 0)), (1, (4, 1)), (2, (0, 900)), (3, (1, (-1)))]) (stN := [(1, 1)]) (hsC := []) (v := (1, 1)) (st2 := [(1, 1), (1, 1)]) (jA_194_43 (d := 0)) (by rfl) (by rfl) (by decide +kernel) (by rfl) (by rfl) (by omega) (by omega) (by omega) (by omega) rfl ?_
  refine jT_advK 26 (pcN := 65) (LN := [(9, (0, 0)), (7, (1, 1)), (5, (1, 1)), (0, (4, 0)), (1, (4, 1)), (2, (0, 900)), (3, (1, (-1)))]) (stN := [(0, 900), (4, 1), (1, (-1)), (1, 1), (0, 0), (4, 7)]) (hsN := jpA_3619) (c1 := 0) (s1 := 0) (c2 := 0) (s2 := 0) (by decide +kernel) ?_ (by omega) (by omega)
  refine jT_iald (x := 0) (a := 1) (j := 900) (fs := []) (X := jS0) (by rfl) (by rfl) (by rfl) (by rfl) (by decide +kernel) ?_
  refine jT_eq (LN := [(9, (0, 0)), (7, (1, 1)), (5, (1, 1)), (0, (4, 0)), (1, (4, 1)), (2, (0, 900)), (3, (1, (-1)))]) (stN := [(0, 0), (1, (-1)), (1, 1), (0, 0), (4, 7)]) (hsN := jpA_3619) rfl rfl rfl ?_
  refine jT_advK 30 (pcN := 65) (LN := [(9, (0, 1)), (7, (1, 1)), (5, (1, 1)), (0, (4, 0)), (1, (4, 1)), (2, (0, 900)), (3, (1, (-1)))]) (stN := [(0, 901), (4, 1), (1, (-1)), (1, 0), (0, 1), (4, 7)]) (hsN := jpA_3619) (c1 := 0) (s1 := 0) (c2 := 0) (s2 := 0) (by decide +kernel) ?_ (by omega) (by omega)
  refine jT_iald (x := 0) (a := 1) (j := 901) (fs := []) (X := jS0) (by rfl) (by rfl) (by rfl) (by rfl) (by decide +kernel) ?_
  refine jT_eq (LN := [(9, (0, 1)), (7, (1, 1)), (5, (1, 1)), (0, (4, 0)), (1, (4, 1)), (2, (0, 900)), (3, (1, (-1)))]) (stN := [(0, 0), (1, (-1)), (1, 0), (0, 1), (4, 7)]) (hsN := jpA_3619) rfl rfl rfl ?_
  refine jT_advK 30 (pcN := 65) (LN := [(9, (0, 2)), (7, (1, 1)), (5, (1, 1)), (0, (4, 0)), (1, (4, 1)), (2, (0, 900)), (3, (1, (-1)))]) (stN := [(0, 902), (4, 1), (1, (-1)), (1, 0), (0, 2), (4, 7)]) (hsN := jpA_3619) (c1 := 0) (s1 := 0) (c2 := 0) (s2 := 0) (by decide +kernel) ?_ (by omega) (by omega)
  refine jT_iald (x := 0) (a := 1) (j := 902) (fs := []) (X := jS0) (by rfl) (by rfl) (by rfl) (by rfl) (by decide +kernel) ?_
  refine jT_eq (LN := [(9, (0, 2)), (7, (1, 1)), (5, (1, 1)), (0, (4, 0)), (1, (4, 1)), (2, (0, 900)), (3, (1, (-1)))]) (stN := [(0, 0), (1, (-1)), (1, 0), (0, 2), (4, 7)]) (hsN := jpA_3619) rfl rfl rfl ?_
  refine jT_advK 30 (pcN := 65) (LN := [(9, (0, 3)), (7, (1, 1)), (5, (1, 1)), (0, (4, 0)), (1, (4, 1)), (2, (0, 900)), (3, (1, (-1)))]) (stN := [(0, 903), (4, 1), (1, (-1)), (1, 0), (0, 3), (4, 7)]) (hsN := jpA_3619) (c1 := 0) (s1 := 0) (c2 := 0) (s2 := 0) (by decide +kernel) ?_ (by omega) (by omega)
  refine jT_iald (x := 0) (a := 1) (j := 903) (fs := []) (X := jS0) (by rfl) (by rfl) (by rfl) (by rfl) (by decide +kernel) ?_
  refine jT_eq (LN := [(9, (0, 3)), (7, (1, 1)), (5, (1, 1)), (0, (4, 0)), (1, (4, 1)), (2, (0, 900)), (3, (1, (-1)))]) (stN := [(0, 0), (1, (-1)), (1, 0), (0, 3), (4, 7)]) (hsN := jpA_3619) rfl rfl rfl ?_
  refine jT_advK 30 (pcN := 65) (LN := [(9, (0, 4)), (7, (1, 1)), (5, (1, 1)), (0, (4, 0)), (1, (4, 1)), (2, (0, 900)), (3, (1, (-1)))]) (stN := [(0, 904), (4, 1), (1, (-1)), (1, 0), (0, 4), (4, 7)]) (hsN := jpA_3619) (c1 := 0) (s1 := 0) (c2 := 0) (s2 := 0) (by decide +kernel) ?_ (by omega) (by omega)
  refine jT_iald (x := 0) (a := 1) (j := 904) (fs := []) (X := jS0) (by rfl) (by rfl) (by rfl) (by rfl) (by decide +kernel) ?_
  refine jT_eq (LN := [(9, (0, 4)), (7, (1, 1)), (5, (1, 1)), (0, (4, 0)), (1, (4, 1)), (2, (0, 900)), (3, (1, (-1)))]) (stN := [(0, 0), (1, (-1)), (1, 0), (0, 4), (4, 7)]) (hsN := jpA_3619) rfl rfl rfl ?_
  refine jT_advK 30 (pcN := 65) (LN := [(9, (0, 5)), (7, (1, 1)), (5, (1, 1)), (0, (4, 0)), (1, (4, 1)), (2, (0, 900)), (3, (1, (-1)))]) (stN := [(0, 905), (4, 1), (1, (-1)), (1, 0), (0, 5), (4, 7)]) (hsN := jpA_3619) (c1 := 0) (s1 := 0) (c2 := 0) (s2 := 0) (by decide +kernel) ?_ (by omega) (by omega)
  refine jT_iald (x := 0) (a := 1) (j := 905) (fs := []) (X := jS0) (by rfl) (by rfl) (by rfl) (by rfl) (by decide +kernel) ?_
  refine jT_eq (LN := [(9, (0, 5)), (7, (1, 1)), (5, (1, 1)), (0, (4, 0)), (1, (4, 1)), (2, (0, 900)), (3, (1, (-1)))]) (stN := [(0, 0), (1, (-1)), (1, 0), (0, 5), (4, 7)]) (hsN := jpA_3619) rfl rfl rfl ?_
  refine jT_advK 17 (pcN := 89) (LN := [(9, (0, 6)), (7, (1, 1)), (5, (1, 1)), (0, (4, 0)), (1, (4, 1)), (2, (0, 900)), (3, (1, (-1)))]) (stN := [(4, 0)]) (hsN := jpA_3619) (c1 := 0) (s1 := 0) (c2 := 0) (s2 := 0) (by decide +kernel) ?_ (by omega) (by omega)
  refine jT_fR [0, 1, 2, 3, 4, 5, 6, 7, 8, 9, 10, 11, 12, 13, 14, 15] 16 (y := 199) (pcN := 92) (dC := 2) (bc1 := 0) (bc2 := 0) (c1 := 0) (c2 := 0) (as := [(4, 0)]) (asC := [(4, 0)]) (LN := [(9, (0, 6)), (7, (1, 1)), (5, (1, 1)), (0, (4, 0)), (1, (4, 1)), (2, (0, 900)), (3, (1, (-1)))]) (stN := []) (hsC := jpA_3618) (v := (9, 0)) (st2 := []) (jA_199_907 (d := 0)) (by rfl) (by rfl) (by decide +kernel) (by rfl) (by rfl) (by omega) (by omega) (by omega) (by omega) rfl ?_
  exact jT_ret rfl (by decide) (by show 16 ≤ 16; decide) (by omega) (by omega) ⟨rfl, rfl, rfl⟩
theorem jA_280_949 {xs : List Int} {d : Nat} : jT xs (d + 4) 280 16 0 [(0, (4, 0)), (1, (0, 3)), (2, (0, 0))] [] jpA_130 0 0 (fun k v hsN => k = 0 ∧ v = (9, 0) ∧ hsN = jpA_3619) := by
  refine jT_advK 5 (pcN := 5) (LN := [(0, (4, 0)), (1, (0, 3)), (2, (0, 0))]) (stN := [(0, 3), (4, 0), (0, 1)]) (hsN := jpA_130) (c1 := 0) (s1 := 0) (c2 := 0) (s2 := 0) (by decide +kernel) ?_ (by omega) (by omega)
  refine jT_fR [0, 1, 2, 3, 4, 5, 6, 7, 8, 9, 10, 11, 12, 13, 14, 15] 16 (y := 245) (pcN := 8) (dC := 0) (bc1 := 0) (bc2 := 0) (c1 := 0) (c2 := 0) (as := [(4, 0), (0, 3)]) (asC := [(4, 0), (0, 3)]) (LN := [(0, (4, 0)), (1, (0, 3)), (2, (0, 0))]) (stN := [(0, 1)]) (hsC := jpA_1519) (v := (0, 1)) (st2 := [(0, 1), (0, 1)]) (jA_245_394 (d := 0)) (by rfl) (by rfl) (by decide +kernel) (by rfl) (by rfl) (by omega) (by omega) (by omega) (by omega) rfl ?_
  refine jT_advK 7 (pcN := 17) (LN := [(3, (0, 0)), (0, (4, 0)), (1, (0, 3)), (2, (0, 0))]) (stN := [(0, 0), (0, 3), (4, 1), (4, 0)]) (hsN := jpA_130) (c1 := 0) (s1 := 0) (c2 := 0) (s2 := 0) (by decide +kernel) ?_ (by omega) (by omega)
  refine jT_fR [] 16 (y := 242) (pcN := 20) (dC := 0) (bc1 := 0) (bc2 := 0) (c1 := 0) (c2 := 0) (as := [(0, 3), (0, 0)]) (asC := [(0, 3), (0, 0)]) (LN := [(3, (0, 0)), (0, (4, 0)), (1, (0, 3)), (2, (0, 0))]) (stN := [(4, 1), (4, 0)]) (hsC := []) (v := (0, 900)) (st2 := [(0, 900), (4, 1), (4, 0)]) (jA_242_395 (d := 0)) (by rfl) (by rfl) (by decide +kernel) (by rfl) (by rfl) (by omega) (by omega) (by omega) (by omega) rfl ?_
  refine jT_fR [0, 1, 2, 3, 4, 5, 6, 7, 8, 9, 10, 11, 12, 13, 14, 15] 16 (y := 203) (pcN := 23) (dC := 0) (bc1 := 0) (bc2 := 0) (c1 := 0) (c2 := 0) (as := [(4, 0), (4, 1), (0, 900)]) (asC := [(4, 0), (4, 1), (0, 900)]) (LN := [(3, (0, 0)), (0, (4, 0)), (1, (0, 3)), (2, (0, 0))]) (stN := []) (hsC := jpA_130) (v := (9, 0)) (st2 := []) (jA_203_398 (d := 0)) (by rfl) (by rfl) (by decide +kernel) (by rfl) (by rfl) (by omega) (by omega) (by omega) (by omega) rfl ?_
  refine jT_advK 16 (pcN := 47) (LN := [(3, (0, 0)), (0, (4, 0)), (1, (0, 3)), (2, (0, 0))]) (stN := [(0, 0), (0, 3), (4, 1), (4, 0)]) (hsN := jpA_3619) (c1 := 0) (s1 := 0) (c2 := 0) (s2 := 0) (by decide +kernel) ?_ (by omega) (by omega)
  refine jT_fR [] 16 (y := 242) (pcN := 50) (dC := 0) (bc1 := 0) (bc2 := 0) (c1 := 0) (c2 := 0) (as := [(0, 3), (0, 0)]) (asC := [(0, 3), (0, 0)]) (LN := [(3, (0, 0)), (0, (4, 0)), (1, (0, 3)), (2, (0, 0))]) (stN := [(4, 1), (4, 0)]) (hsC := []) (v := (0, 900)) (st2 := [(0, 900), (4, 1), (4, 0)]) (jA_242_395 (d := 0)) (by rfl) (by rfl) (by decide +kernel) (by rfl) (by rfl) (by omega) (by omega) (by omega) (by omega) rfl ?_
  refine jT_advK 1 (pcN := 53) (LN := [(3, (0, 0)), (0, (4, 0)), (1, (0, 3)), (2, (0, 0))]) (stN := [(1, (-1)), (0, 900), (4, 1), (4, 0)]) (hsN := jpA_3619) (c1 := 0) (s1 := 0) (c2 := 0) (s2 := 0) (by decide +kernel) ?_ (by omega) (by omega)
  refine jT_fR [0, 1, 2, 3, 4, 5, 6, 7, 8, 9, 10, 11, 12, 13, 14, 15] 16 (y := 204) (pcN := 56) (dC := 3) (bc1 := 0) (bc2 := 0) (c1 := 0) (c2 := 0) (as := [(4, 0), (4, 1), (0, 900), (1, (-1))]) (asC := [(4, 0), (4, 1), (0, 900), (1, (-1))]) (LN := [(3, (0, 0)), (0, (4, 0)), (1, (0, 3)), (2, (0, 0))]) (stN := []) (hsC := jpA_3619) (v := (9, 0)) (st2 := []) (jA_204_948 (d := 0)) (by rfl) (by rfl) (by decide +kernel) (by rfl) (by rfl) (by omega) (by omega) (by omega) (by omega) rfl ?_
  exact jT_ret rfl (by decide) (by show 16 ≤ 16; decide) (by omega) (by omega) ⟨rfl, rfl, rfl⟩
theorem jA_279_950 {xs : List Int} {d : Nat} : jT xs (d + 8) 279 22 0 [(0, (4, 0)), (1, (0, 3)), (2, (0, 0)), (3, (0, 1))] [] jpA_1695 10 360 (fun k v hsN => k = 0 ∧ v = (0, 1200) ∧ hsN = jpA_3636) := by
  refine jT_advK 2 (pcN := 2) (LN := [(0, (4, 0)), (1, (0, 3)), (2, (0, 0)), (3, (0, 1))]) (stN := [(0, 3), (4, 0)]) (hsN := jpA_1695) (c1 := 0) (s1 := 0) (c2 := 10) (s2 := 360) (by decide +kernel) ?_ (by omega) (by omega)
  refine jT_fR [] 22 (y := 238) (pcN := 5) (dC := 1) (bc1 := 0) (bc2 := 0) (c1 := 10) (c2 := 360) (as := [(0, 3)]) (asC := [(0, 3)]) (LN := [(0, (4, 0)), (1, (0, 3)), (2, (0, 0)), (3, (0, 1))]) (stN := [(4, 0)]) (hsC := []) (v := (0, 1)) (st2 := [(0, 1), (4, 0)]) (jA_238_393 (d := 0)) (by rfl) (by rfl) (by decide +kernel) (by rfl) (by rfl) (by omega) (by omega) (by omega) (by omega) rfl ?_
  refine jT_fR [0, 1, 2, 3, 4, 5, 6, 7, 8, 9, 10, 11, 12, 13, 14, 15] 22 (y := 190) (pcN := 8) (dC := 1) (bc1 := 0) (bc2 := 0) (c1 := 10) (c2 := 360) (as := [(4, 0), (0, 1)]) (asC := [(4, 0), (0, 1)]) (LN := [(0, (4, 0)), (1, (0, 3)), (2, (0, 0)), (3, (0, 1))]) (stN := []) (hsC := jpA_22) (v := (0, 0)) (st2 := [(0, 0)]) (jA_190_39 (d := 0)) (by rfl) (by rfl) (by decide +kernel) (by rfl) (by rfl) (by omega) (by omega) (by omega) (by omega) rfl ?_
  refine jT_advK 5 (pcN := 15) (LN := [(0, (4, 0)), (1, (0, 3)), (2, (0, 0)), (3, (0, 1))]) (stN := [(0, 0), (0, 3), (4, 0), (4, 0)]) (hsN := jpA_1695) (c1 := 0) (s1 := 0) (c2 := 10) (s2 := 360) (by decide +kernel) ?_ (by omega) (by omega)
  refine jT_fR [0, 1, 2, 3, 4, 5, 6, 7, 8, 9, 10, 11, 12, 13, 14, 15] 22 (y := 247) (pcN := 18) (dC := 1) (bc1 := 0) (bc2 := 0) (c1 := 10) (c2 := 360) (as := [(4, 0), (0, 3), (0, 0)]) (asC := [(4, 0), (0, 3), (0, 0)]) (LN := [(0, (4, 0)), (1, (0, 3)), (2, (0, 0)), (3, (0, 1))]) (stN := [(4, 0)]) (hsC := jpA_1519) (v := (0, 1)) (st2 := [(0, 1), (4, 0)]) (jA_247_492 (d := 0)) (by rfl) (by rfl) (by decide +kernel) (by rfl) (by rfl) (by omega) (by omega) (by omega) (by omega) rfl ?_
  refine jT_advK 1 (pcN := 19) (LN := [(0, (4, 0)), (1, (0, 3)), (2, (0, 0)), (3, (0, 1))]) (stN := [(0, 1), (0, 1), (4, 0)]) (hsN := jpA_1695) (c1 := 0) (s1 := 0) (c2 := 10) (s2 := 360) (by decide +kernel) ?_ (by omega) (by omega)
  refine jT_fR [0] 22 (y := 191) (pcN := 22) (dC := 0) (bc1 := 0) (bc2 := 0) (c1 := 10) (c2 := 360) (as := [(4, 0), (0, 1), (0, 1)]) (asC := [(4, 0), (0, 1), (0, 1)]) (LN := [(0, (4, 0)), (1, (0, 3)), (2, (0, 0)), (3, (0, 1))]) (stN := []) (hsC := [jgh]) (v := (0, 0)) (st2 := [(0, 0)]) (jA_191_38 (d := 0)) (by rfl) (by rfl) (by decide +kernel) (by rfl) (by rfl) (by omega) (by omega) (by omega) (by omega) rfl ?_
  refine jT_advK 6 (pcN := 34) (LN := [(0, (4, 0)), (1, (0, 3)), (2, (0, 0)), (3, (0, 1))]) (stN := [(0, 0), (0, 3), (4, 0)]) (hsN := jpA_1695) (c1 := 0) (s1 := 0) (c2 := 10) (s2 := 360) (by decide +kernel) ?_ (by omega) (by omega)
  refine jT_fB [0, 1, 2, 3, 4, 5, 6, 7, 8, 9, 10, 11, 12, 13, 14, 15] 22 (y := 280) (pcN := 37) (dC := 4) (bc1 := 0) (bc2 := 0) (c1 := 10) (c2 := 360) (as := [(4, 0), (0, 3), (0, 0)]) (asC := [(4, 0), (0, 3), (0, 0)]) (LN := [(0, (4, 0)), (1, (0, 3)), (2, (0, 0)), (3, (0, 1))]) (stN := []) (hsC := jpA_130) (hsD := jpA_3619) (v := (9, 0)) (st2 := []) (hs2 := jpA_3635) (jA_280_949 (d := 0)) (by rfl) (by rfl) (by decide +kernel) (by rfl) (by rfl) (by omega) (by omega) (by omega) (by omega) rfl (by decide +kernel) ?_
  refine jT_advK 4 (pcN := 56) (LN := [(0, (4, 0)), (1, (0, 3)), (2, (0, 0)), (3, (0, 1))]) (stN := [(0, 2), (1, 1), (4, 0)]) (hsN := jpA_3635) (c1 := 0) (s1 := 0) (c2 := 10) (s2 := 360) (by decide +kernel) ?_ (by omega) (by omega)
  refine jT_fA [0, 1, 2, 3, 4, 5, 6, 7, 8, 9, 10, 11, 12, 13, 14, 15, 16, 17, 18, 19, 20, 21] 22 (y := 265) (pcN := 59) (dC := 7) (bc1 := 10) (bc2 := 360) (c1 := 0) (c2 := 0) (as := [(4, 0), (1, 1), (0, 2)]) (asC := [(4, 0), (1, 1), (0, 2)]) (LN := [(0, (4, 0)), (1, (0, 3)), (2, (0, 0)), (3, (0, 1))]) (stN := []) (hsC := jpA_3631) (ex := jpA_3634) (v := (1, 1200)) (st2 := [(1, 1200)]) (hs2 := jpA_3636) (jA_265_916 (d := 0)) (by rfl) (by rfl) (by decide +kernel) (by rfl) (by rfl) (by omega) (by omega) (by omega) (by omega) rfl (by decide +kernel) ?_
  refine jT_advK 1 (pcN := 60) (LN := [(0, (4, 0)), (1, (0, 3)), (2, (0, 0)), (3, (0, 1))]) (stN := [(0, 1200)]) (hsN := jpA_3636) (c1 := 0) (s1 := 0) (c2 := 0) (s2 := 0) (by decide +kernel) ?_ (by omega) (by omega)
  exact jT_ret rfl (by decide) (by show 22 ≤ 32; decide) (by omega) (by omega) ⟨rfl, rfl, rfl⟩
theorem jA_149_951 {xs : List Int} {d : Nat} {x2 : Int} (h_x2 : 1 ≤ x2 ∧ x2 ≤ 2147483647) : jT xs (d + 1) 149 23 0 [(0, (4, 0)), (1, (0, 3)), (2, (0, x2)), (3, (0, 1))] [] jpA_1871 1 6 (fun k v hsN => k = 1 ∧ v = (0, 0) ∧ hsN = jpA_1871 ++ []) := by
  refine jT_xaload_n (v := (4, 0)) (pcN := 1) jI_149_0 rfl rfl rfl ?_
  refine jT_xiload_n (v := (0, 3)) (pcN := 2) jI_149_1 rfl rfl rfl ?_
  refine jT_xiconst (k := 4) (pcN := 3) jI_149_2 rfl ?_
  refine jT_fR [0] 23 (y := 115) (pcN := 6) (dC := 0) (bc1 := 0) (bc2 := 0) (c1 := 1) (c2 := 6) (as := [(4, 0), (0, 3), (0, 4)]) (asC := [(4, 0), (0, 3), (0, 4)]) (LN := [(0, (4, 0)), (1, (0, 3)), (2, (0, x2)), (3, (0, 1))]) (stN := []) (hsC := [jgh]) (v := (9, 0)) (st2 := []) (jA_115_387 (d := 0)) (by rfl) (by rfl) (by decide +kernel) (by rfl) (by rfl) (by omega) (by omega) (by omega) (by omega) rfl ?_
  refine jT_xaload_n (v := (4, 0)) (pcN := 7) jI_149_6 rfl rfl rfl ?_
  refine jT_xgetf (a := 0) (t := 1) (ci := 13) (fi := 11) (c := jzA_5) (v := (4, 11)) (pcN := 10) jI_149_7 rfl rfl rfl rfl rfl rfl rfl ?_
  refine jT_xiload_n (v := (0, 3)) (pcN := 11) jI_149_10 rfl rfl rfl ?_
  refine jT_fR [11, 12, 13, 14, 15, 16, 17, 18, 19, 20] 23 (y := 56) (pcN := 14) (dC := 0) (bc1 := 0) (bc2 := 0) (c1 := 1) (c2 := 6) (as := [(4, 11), (0, 3)]) (asC := [(4, 0), (0, 3)]) (LN := [(0, (4, 0)), (1, (0, 3)), (2, (0, x2)), (3, (0, 1))]) (stN := []) (hsC := jpA_1446) (v := (4, 9)) (st2 := [(4, 20)]) (jA_56_388 (d := 0)) (by rfl) (by rfl) (by decide +kernel) (by rfl) (by rfl) (by omega) (by omega) (by omega) (by omega) rfl ?_
  refine jT_xastore (v := (4, 20)) (LN := [(4, (4, 20)), (0, (4, 0)), (1, (0, 3)), (2, (0, x2)), (3, (0, 1))]) (pcN := 16) jI_149_14 rfl rfl rfl rfl ?_
  refine jT_xaload_n (v := (4, 0)) (pcN := 17) jI_149_16 rfl rfl rfl ?_
  refine jT_xiload_n (v := (0, x2)) (pcN := 18) jI_149_17 rfl rfl rfl ?_
  refine jT_xaload (v := (4, 20)) (pcN := 20) jI_149_18 rfl rfl rfl ?_
  refine jT_fR [20, 21, 22] 23 (y := 29) (pcN := 23) (dC := 0) (bc1 := 0) (bc2 := 0) (c1 := 1) (c2 := 6) (as := [(4, 20)]) (asC := [(4, 0)]) (LN := [(4, (4, 20)), (0, (4, 0)), (1, (0, 3)), (2, (0, x2)), (3, (0, 1))]) (stN := [(0, x2), (4, 0)]) (hsC := [(7, [(4, 1), (4, (-1)), (4, (-1))], []), (114, [], [2]), jgh]) (v := (0, 1)) (st2 := [(0, 1), (0, x2), (4, 0)]) (jA_29_416 (d := 0)) (by rfl) (by rfl) (by decide +kernel) (by rfl) (by rfl) (by omega) (by omega) (by omega) (by omega) rfl ?_
  exact jT_fX [0] 23 (y := 115) (pcN := 26) (dC := 0) (bc1 := 1) (bc2 := 6) (as := [(4, 0), (0, x2), (0, 1)]) (asC := [(4, 0), (0, x2), (0, 1)]) (LN := [(4, (4, 20)), (0, (4, 0)), (1, (0, 3)), (2, (0, x2)), (3, (0, 1))]) (stN := []) (hsC := [jgh]) (e := 0) (jA_115_453 (d := 0) (by omega)) (by rfl) (by rfl) (by decide +kernel) (by rfl) (by rfl) (by omega) (by omega) (by omega) (by omega) ⟨rfl, ⟨rfl, rfl, rfl⟩⟩
theorem jA_354_952 {xs : List Int} {d : Nat} {x2 : Int} (h_x2 : 1 ≤ x2 ∧ x2 ≤ 2147483647) : jT xs (d + 2) 354 24 0 [(0, (4, 0)), (1, (0, 3)), (2, (0, x2)), (3, (0, 1)), (4, (4, 1))] [] jpA_1872 1 6 (fun k v hsN => k = 0 ∧ v = (0, 1) ∧ hsN = jpA_1872 ++ []) := by
  refine jT_xaload (v := (4, 1)) (pcN := 2) jI_354_0 rfl rfl rfl ?_
  refine jT_xiconst (k := 0) (pcN := 3) jI_354_2 rfl ?_
  refine jT_xaload_n (v := (4, 0)) (pcN := 4) jI_354_3 rfl rfl rfl ?_
  refine jT_xiload_n (v := (0, 3)) (pcN := 5) jI_354_4 rfl rfl rfl ?_
  refine jT_xiload_n (v := (0, x2)) (pcN := 6) jI_354_5 rfl rfl rfl ?_
  refine jT_xiload_n (v := (0, 1)) (pcN := 7) jI_354_6 rfl rfl rfl ?_
  exact jT_fX [0, 2, 3, 4, 5, 6, 7, 8, 9, 10, 11, 12, 13, 14, 15, 16, 17, 18, 19, 20, 21, 22, 23] 24 (y := 149) (pcN := 10) (dC := 1) (bc1 := 1) (bc2 := 6) (as := [(4, 0), (0, 3), (0, x2), (0, 1)]) (asC := [(4, 0), (0, 3), (0, x2), (0, 1)]) (LN := [(0, (4, 0)), (1, (0, 3)), (2, (0, x2)), (3, (0, 1)), (4, (4, 1))]) (stN := [(0, 0), (4, 1)]) (hsC := jpA_1871) (e := 0) (jA_149_951 (d := 0) (by omega)) (by rfl) (by rfl) (by decide +kernel) (by rfl) (by rfl) (by omega) (by omega) (by omega) (by omega) (show _ from ⟨rfl, rfl, rfl⟩)
theorem jA_279_953 {xs : List Int} {d : Nat} {x2 : Int} (h_x2 : 1 ≤ x2 ∧ x2 ≤ 2147483647) : jT xs (d + 2) 279 16 0 [(0, (4, 0)), (1, (0, 3)), (2, (0, x2)), (3, (0, 1))] [] jpA_1519 0 0 (fun k v hsN => k = 0 ∧ v = (0, 0) ∧ hsN = jpA_1820) := by
  refine jT_xaload_n (v := (4, 0)) (pcN := 1) jI_279_0 rfl rfl rfl ?_
  refine jT_xiload_n (v := (0, 3)) (pcN := 2) jI_279_1 rfl rfl rfl ?_
  refine jT_fR [] 16 (y := 238) (pcN := 5) (dC := 1) (bc1 := 0) (bc2 := 0) (c1 := 0) (c2 := 0) (as := [(0, 3)]) (asC := [(0, 3)]) (LN := [(0, (4, 0)), (1, (0, 3)), (2, (0, x2)), (3, (0, 1))]) (stN := [(4, 0)]) (hsC := []) (v := (0, 1)) (st2 := [(0, 1), (4, 0)]) (jA_238_393 (d := 0)) (by rfl) (by rfl) (by decide +kernel) (by rfl) (by rfl) (by omega) (by omega) (by omega) (by omega) rfl ?_
  refine jT_fR [0, 1, 2, 3, 4, 5, 6, 7, 8, 9, 10, 11, 12, 13, 14, 15] 16 (y := 190) (pcN := 8) (dC := 1) (bc1 := 0) (bc2 := 0) (c1 := 0) (c2 := 0) (as := [(4, 0), (0, 1)]) (asC := [(4, 0), (0, 1)]) (LN := [(0, (4, 0)), (1, (0, 3)), (2, (0, x2)), (3, (0, 1))]) (stN := []) (hsC := jpA_22) (v := (0, 0)) (st2 := [(0, 0)]) (jA_190_39 (d := 0)) (by rfl) (by rfl) (by decide +kernel) (by rfl) (by rfl) (by omega) (by omega) (by omega) (by omega) rfl ?_
  refine jT_xifF (t := 25) (pcN := 11) jI_279_8 rfl (by decide +kernel) rfl rfl ?_
  refine jT_xaload_n (v := (4, 0)) (pcN := 12) jI_279_11 rfl rfl rfl ?_
  refine jT_xaload_n (v := (4, 0)) (pcN := 13) jI_279_12 rfl rfl rfl ?_
  refine jT_xiload_n (v := (0, 3)) (pcN := 14) jI_279_13 rfl rfl rfl ?_
  refine jT_xiload_n (v := (0, x2)) (pcN := 15) jI_279_14 rfl rfl rfl ?_
  refine jT_fR [0, 1, 2, 3, 4, 5, 6, 7, 8, 9, 10, 11, 12, 13, 14, 15] 16 (y := 247) (pcN := 18) (dC := 1) (bc1 := 0) (bc2 := 0) (c1 := 0) (c2 := 0) (as := [(4, 0), (0, 3), (0, x2)]) (asC := [(4, 0), (0, 3), (0, x2)]) (LN := [(0, (4, 0)), (1, (0, 3)), (2, (0, x2)), (3, (0, 1))]) (stN := [(4, 0)]) (hsC := jpA_1519) (v := (0, 0)) (st2 := [(0, 0), (4, 0)]) (jA_247_498 (d := 0) (by omega)) (by rfl) (by rfl) (by decide +kernel) (by rfl) (by rfl) (by omega) (by omega) (by omega) (by omega) rfl ?_
  refine jT_xiconst (k := 1) (pcN := 19) jI_279_18 rfl ?_
  refine jT_fB [0, 1, 2, 3, 4, 5, 6, 7, 8, 9, 10, 11, 12, 13, 14, 15] 16 (y := 191) (pcN := 22) (dC := 0) (bc1 := 0) (bc2 := 0) (c1 := 0) (c2 := 0) (as := [(4, 0), (0, 0), (0, 1)]) (asC := [(4, 0), (0, 0), (0, 1)]) (LN := [(0, (4, 0)), (1, (0, 3)), (2, (0, x2)), (3, (0, 1))]) (stN := []) (hsC := jpA_22) (hsD := jpA_20) (v := (0, 1)) (st2 := [(0, 1)]) (hs2 := jpA_1820) (jA_191_5 (d := 0)) (by rfl) (by rfl) (by decide +kernel) (by rfl) (by rfl) (by omega) (by omega) (by omega) (by omega) rfl (by decide +kernel) ?_
  refine jT_xifF (t := 27) (pcN := 25) jI_279_22 rfl (by decide +kernel) rfl rfl ?_
  refine jT_xiconst (k := 0) (pcN := 26) jI_279_25 rfl ?_
  exact jT_ret rfl (by decide) (by show 16 ≤ 16; decide) (by omega) (by omega) ⟨rfl, rfl, rfl⟩
theorem jA_149_954 {xs : List Int} {d : Nat} {x1 x2 : Int} (h_x1 : 4 ≤ x1 ∧ x1 ≤ 2147483647) (h_x2 : (-2147483648) ≤ x2 ∧ x2 ≤ 2147483647) : jT xs (d + 1) 149 12 0 [(0, (4, 0)), (1, (0, x1)), (2, (0, x2)), (3, (0, 1))] [] jpA_6 1 6 (fun k v hsN => k = 1 ∧ v = (0, 0) ∧ hsN = jpA_6 ++ []) := by
  refine jT_xaload_n (v := (4, 0)) (pcN := 1) jI_149_0 rfl rfl rfl ?_
  refine jT_xiload_n (v := (0, x1)) (pcN := 2) jI_149_1 rfl rfl rfl ?_
  refine jT_xiconst (k := 4) (pcN := 3) jI_149_2 rfl ?_
  exact jT_fX [0] 12 (y := 115) (pcN := 6) (dC := 0) (bc1 := 1) (bc2 := 6) (as := [(4, 0), (0, x1), (0, 4)]) (asC := [(4, 0), (0, x1), (0, 4)]) (LN := [(0, (4, 0)), (1, (0, x1)), (2, (0, x2)), (3, (0, 1))]) (stN := []) (hsC := [jgh]) (e := 0) (jA_115_405 (d := 0) (by omega)) (by rfl) (by rfl) (by decide +kernel) (by rfl) (by rfl) (by omega) (by omega) (by omega) (by omega) ⟨rfl, ⟨rfl, rfl, rfl⟩⟩
theorem jA_354_955 {xs : List Int} {d : Nat} {x1 x2 : Int} (h_x1 : 4 ≤ x1 ∧ x1 ≤ 2147483647) (h_x2 : (-2147483648) ≤ x2 ∧ x2 ≤ 2147483647) : jT xs (d + 2) 354 13 0 [(0, (4, 0)), (1, (0, x1)), (2, (0, x2)), (3, (0, 1)), (4, (4, 1))] [] jpA_15 1 6 (fun k v hsN => k = 0 ∧ v = (0, 1) ∧ hsN = jpA_15 ++ []) := by
  refine jT_xaload (v := (4, 1)) (pcN := 2) jI_354_0 rfl rfl rfl ?_
  refine jT_xiconst (k := 0) (pcN := 3) jI_354_2 rfl ?_
  refine jT_xaload_n (v := (4, 0)) (pcN := 4) jI_354_3 rfl rfl rfl ?_
  refine jT_xiload_n (v := (0, x1)) (pcN := 5) jI_354_4 rfl rfl rfl ?_
  refine jT_xiload_n (v := (0, x2)) (pcN := 6) jI_354_5 rfl rfl rfl ?_
  refine jT_xiload_n (v := (0, 1)) (pcN := 7) jI_354_6 rfl rfl rfl ?_
  exact jT_fX [0, 2, 3, 4, 5, 6, 7, 8, 9, 10, 11, 12] 13 (y := 149) (pcN := 10) (dC := 1) (bc1 := 1) (bc2 := 6) (as := [(4, 0), (0, x1), (0, x2), (0, 1)]) (asC := [(4, 0), (0, x1), (0, x2), (0, 1)]) (LN := [(0, (4, 0)), (1, (0, x1)), (2, (0, x2)), (3, (0, 1)), (4, (4, 1))]) (stN := [(0, 0), (4, 1)]) (hsC := jpA_6) (e := 0) (jA_149_954 (d := 0) (by omega) (by omega)) (by rfl) (by rfl) (by decide +kernel) (by rfl) (by rfl) (by omega) (by omega) (by omega) (by omega) (show _ from ⟨rfl, rfl, rfl⟩)
theorem jA_279_956 {xs : List Int} {d : Nat} {x1 x2 : Int} (h_x1 : 4 ≤ x1 ∧ x1 ≤ 2147483647) (h_x2 : (-2147483648) ≤ x2 ∧ x2 ≤ 2147483647) : jT xs (d + 2) 279 16 0 [(0, (4, 0)), (1, (0, x1)), (2, (0, x2)), (3, (0, 1))] [] jpA_22 0 0 (fun k v hsN => k = 0 ∧ v = (0, 0) ∧ hsN = jpA_20) := by
  refine jT_xaload_n (v := (4, 0)) (pcN := 1) jI_279_0 rfl rfl rfl ?_
  refine jT_xiload_n (v := (0, x1)) (pcN := 2) jI_279_1 rfl rfl rfl ?_
  refine jT_fR [] 16 (y := 238) (pcN := 5) (dC := 1) (bc1 := 0) (bc2 := 0) (c1 := 0) (c2 := 0) (as := [(0, x1)]) (asC := [(0, x1)]) (LN := [(0, (4, 0)), (1, (0, x1)), (2, (0, x2)), (3, (0, 1))]) (stN := [(4, 0)]) (hsC := []) (v := (0, 0)) (st2 := [(0, 0), (4, 0)]) (jA_238_408 (d := 0) (by omega)) (by rfl) (by rfl) (by decide +kernel) (by rfl) (by rfl) (by omega) (by omega) (by omega) (by omega) rfl ?_
  refine jT_fB [0, 1, 2, 3, 4, 5, 6, 7, 8, 9, 10, 11, 12, 13, 14, 15] 16 (y := 190) (pcN := 8) (dC := 1) (bc1 := 0) (bc2 := 0) (c1 := 0) (c2 := 0) (as := [(4, 0), (0, 0)]) (asC := [(4, 0), (0, 0)]) (LN := [(0, (4, 0)), (1, (0, x1)), (2, (0, x2)), (3, (0, 1))]) (stN := []) (hsC := jpA_22) (hsD := jpA_20) (v := (0, 1)) (st2 := [(0, 1)]) (hs2 := jpA_20) (jA_190_6 (d := 0)) (by rfl) (by rfl) (by decide +kernel) (by rfl) (by rfl) (by omega) (by omega) (by omega) (by omega) rfl (by decide +kernel) ?_
  refine jT_xifT (pcN := 25) jI_279_8 rfl (by decide +kernel) rfl ?_
  refine jT_xiconst (k := 0) (pcN := 26) jI_279_25 rfl ?_
  exact jT_ret rfl (by decide) (by show 16 ≤ 16; decide) (by omega) (by omega) ⟨rfl, rfl, rfl⟩
theorem jA_149_957 {xs : List Int} {d : Nat} {x1 x2 : Int} (h_x1 : (-2147483648) ≤ x1 ∧ x1 ≤ (-1)) (h_x2 : (-2147483648) ≤ x2 ∧ x2 ≤ 2147483647) : jT xs (d + 1) 149 12 0 [(0, (4, 0)), (1, (0, x1)), (2, (0, x2)), (3, (0, 0))] [] jpA_6 1 6 (fun k v hsN => k = 1 ∧ v = (0, 0) ∧ hsN = jpA_6 ++ []) := by
  refine jT_xaload_n (v := (4, 0)) (pcN := 1) jI_149_0 rfl rfl rfl ?_
  refine jT_xiload_n (v := (0, x1)) (pcN := 2) jI_149_1 rfl rfl rfl ?_
  refine jT_xiconst (k := 4) (pcN := 3) jI_149_2 rfl ?_
  exact jT_fX [0] 12 (y := 115) (pcN := 6) (dC := 0) (bc1 := 1) (bc2 := 6) (as := [(4, 0), (0, x1), (0, 4)]) (asC := [(4, 0), (0, x1), (0, 4)]) (LN := [(0, (4, 0)), (1, (0, x1)), (2, (0, x2)), (3, (0, 0))]) (stN := []) (hsC := [jgh]) (e := 0) (jA_115_310 (d := 0) (by omega)) (by rfl) (by rfl) (by decide +kernel) (by rfl) (by rfl) (by omega) (by omega) (by omega) (by omega) ⟨rfl, ⟨rfl, rfl, rfl⟩⟩
theorem jA_354_958 {xs : List Int} {d : Nat} {x1 x2 : Int} (h_x1 : (-2147483648) ≤ x1 ∧ x1 ≤ (-1)) (h_x2 : (-2147483648) ≤ x2 ∧ x2 ≤ 2147483647) : jT xs (d + 2) 354 13 0 [(0, (4, 0)), (1, (0, x1)), (2, (0, x2)), (3, (0, 0)), (4, (4, 1))] [] jpA_15 1 6 (fun k v hsN => k = 0 ∧ v = (0, 1) ∧ hsN = jpA_15 ++ []) := by
  refine jT_xaload (v := (4, 1)) (pcN := 2) jI_354_0 rfl rfl rfl ?_
  refine jT_xiconst (k := 0) (pcN := 3) jI_354_2 rfl ?_
  refine jT_xaload_n (v := (4, 0)) (pcN := 4) jI_354_3 rfl rfl rfl ?_
  refine jT_xiload_n (v := (0, x1)) (pcN := 5) jI_354_4 rfl rfl rfl ?_
  refine jT_xiload_n (v := (0, x2)) (pcN := 6) jI_354_5 rfl rfl rfl ?_
  refine jT_xiload_n (v := (0, 0)) (pcN := 7) jI_354_6 rfl rfl rfl ?_
  exact jT_fX [0, 2, 3, 4, 5, 6, 7, 8, 9, 10, 11, 12] 13 (y := 149) (pcN := 10) (dC := 1) (bc1 := 1) (bc2 := 6) (as := [(4, 0), (0, x1), (0, x2), (0, 0)]) (asC := [(4, 0), (0, x1), (0, x2), (0, 0)]) (LN := [(0, (4, 0)), (1, (0, x1)), (2, (0, x2)), (3, (0, 0)), (4, (4, 1))]) (stN := [(0, 0), (4, 1)]) (hsC := jpA_6) (e := 0) (jA_149_957 (d := 0) (by omega) (by omega)) (by rfl) (by rfl) (by decide +kernel) (by rfl) (by rfl) (by omega) (by omega) (by omega) (by omega) (show _ from ⟨rfl, rfl, rfl⟩)
theorem jA_279_959 {xs : List Int} {d : Nat} {x1 x2 : Int} (h_x1 : (-2147483648) ≤ x1 ∧ x1 ≤ (-1)) (h_x2 : (-2147483648) ≤ x2 ∧ x2 ≤ 2147483647) : jT xs (d + 2) 279 16 0 [(0, (4, 0)), (1, (0, x1)), (2, (0, x2)), (3, (0, 0))] [] jpA_22 0 0 (fun k v hsN => k = 0 ∧ v = (0, 0) ∧ hsN = jpA_20) := by
  refine jT_xaload_n (v := (4, 0)) (pcN := 1) jI_279_0 rfl rfl rfl ?_
  refine jT_xiload_n (v := (0, x1)) (pcN := 2) jI_279_1 rfl rfl rfl ?_
  refine jT_fR [] 16 (y := 238) (pcN := 5) (dC := 1) (bc1 := 0) (bc2 := 0) (c1 := 0) (c2 := 0) (as := [(0, x1)]) (asC := [(0, x1)]) (LN := [(0, (4, 0)), (1, (0, x1)), (2, (0, x2)), (3, (0, 0))]) (stN := [(4, 0)]) (hsC := []) (v := (0, 0)) (st2 := [(0, 0), (4, 0)]) (jA_238_313 (d := 0) (by omega)) (by rfl) (by rfl) (by decide +kernel) (by rfl) (by rfl) (by omega) (by omega) (by omega) (by omega) rfl ?_
  refine jT_fB [0, 1, 2, 3, 4, 5, 6, 7, 8, 9, 10, 11, 12, 13, 14, 15] 16 (y := 190) (pcN := 8) (dC := 1) (bc1 := 0) (bc2 := 0) (c1 := 0) (c2 := 0) (as := [(4, 0), (0, 0)]) (asC := [(4, 0), (0, 0)]) (LN := [(0, (4, 0)), (1, (0, x1)), (2, (0, x2)), (3, (0, 0))]) (stN := []) (hsC := jpA_22) (hsD := jpA_20) (v := (0, 1)) (st2 := [(0, 1)]) (hs2 := jpA_20) (jA_190_6 (d := 0)) (by rfl) (by rfl) (by decide +kernel) (by rfl) (by rfl) (by omega) (by omega) (by omega) (by omega) rfl (by decide +kernel) ?_
  refine jT_xifT (pcN := 25) jI_279_8 rfl (by decide +kernel) rfl ?_
  refine jT_xiconst (k := 0) (pcN := 26) jI_279_25 rfl ?_
  exact jT_ret rfl (by decide) (by show 16 ≤ 16; decide) (by omega) (by omega) ⟨rfl, rfl, rfl⟩
theorem jA_149_960 {xs : List Int} {d : Nat} {x2 : Int} (h_x2 : (-2147483648) ≤ x2 ∧ x2 ≤ (-1)) : jT xs (d + 1) 149 23 0 [(0, (4, 0)), (1, (0, 0)), (2, (0, x2)), (3, (0, 0))] [] jpA_1805 1 6 (fun k v hsN => k = 1 ∧ v = (0, 0) ∧ hsN = jpA_1805 ++ []) := by
  refine jT_xaload_n (v := (4, 0)) (pcN := 1) jI_149_0 rfl rfl rfl ?_
  refine jT_xiload_n (v := (0, 0)) (pcN := 2) jI_149_1 rfl rfl rfl ?_
  refine jT_xiconst (k := 4) (pcN := 3) jI_149_2 rfl ?_
  refine jT_fR [0] 23 (y := 115) (pcN := 6) (dC := 0) (bc1 := 0) (bc2 := 0) (c1 := 1) (c2 := 6) (as := [(4, 0), (0, 0), (0, 4)]) (asC := [(4, 0), (0, 0), (0, 4)]) (LN := [(0, (4, 0)), (1, (0, 0)), (2, (0, x2)), (3, (0, 0))]) (stN := []) (hsC := [jgh]) (v := (9, 0)) (st2 := []) (jA_115_321 (d := 0)) (by rfl) (by rfl) (by decide +kernel) (by rfl) (by rfl) (by omega) (by omega) (by omega) (by omega) rfl ?_
  refine jT_xaload_n (v := (4, 0)) (pcN := 7) jI_149_6 rfl rfl rfl ?_
  refine jT_xgetf (a := 0) (t := 1) (ci := 13) (fi := 11) (c := jzA_5) (v := (4, 11)) (pcN := 10) jI_149_7 rfl rfl rfl rfl rfl rfl rfl ?_
  refine jT_xiload_n (v := (0, 0)) (pcN := 11) jI_149_10 rfl rfl rfl ?_
  refine jT_fR [11, 12, 13, 14, 15, 16, 17, 18, 19, 20] 23 (y := 56) (pcN := 14) (dC := 0) (bc1 := 0) (bc2 := 0) (c1 := 1) (c2 := 6) (as := [(4, 11), (0, 0)]) (asC := [(4, 0), (0, 0)]) (LN := [(0, (4, 0)), (1, (0, 0)), (2, (0, x2)), (3, (0, 0))]) (stN := []) (hsC := jpA_1446) (v := (4, 6)) (st2 := [(4, 17)]) (jA_56_322 (d := 0)) (by rfl) (by rfl) (by decide +kernel) (by rfl) (by rfl) (by omega) (by omega) (by omega) (by omega) rfl ?_
  refine jT_xastore (v := (4, 17)) (LN := [(4, (4, 17)), (0, (4, 0)), (1, (0, 0)), (2, (0, x2)), (3, (0, 0))]) (pcN := 16) jI_149_14 rfl rfl rfl rfl ?_
  refine jT_xaload_n (v := (4, 0)) (pcN := 17) jI_149_16 rfl rfl rfl ?_
  refine jT_xiload_n (v := (0, x2)) (pcN := 18) jI_149_17 rfl rfl rfl ?_
  refine jT_xaload (v := (4, 17)) (pcN := 20) jI_149_18 rfl rfl rfl ?_
  refine jT_fR [17, 21, 22] 23 (y := 29) (pcN := 23) (dC := 0) (bc1 := 0) (bc2 := 0) (c1 := 1) (c2 := 6) (as := [(4, 17)]) (asC := [(4, 0)]) (LN := [(4, (4, 17)), (0, (4, 0)), (1, (0, 0)), (2, (0, x2)), (3, (0, 0))]) (stN := [(0, x2), (4, 0)]) (hsC := [(7, [(4, 1), (4, (-1)), (4, (-1))], []), (114, [], [2]), jgh]) (v := (0, 1)) (st2 := [(0, 1), (0, x2), (4, 0)]) (jA_29_416 (d := 0)) (by rfl) (by rfl) (by decide +kernel) (by rfl) (by rfl) (by omega) (by omega) (by omega) (by omega) rfl ?_
  exact jT_fX [0] 23 (y := 115) (pcN := 26) (dC := 0) (bc1 := 1) (bc2 := 6) (as := [(4, 0), (0, x2), (0, 1)]) (asC := [(4, 0), (0, x2), (0, 1)]) (LN := [(4, (4, 17)), (0, (4, 0)), (1, (0, 0)), (2, (0, x2)), (3, (0, 0))]) (stN := []) (hsC := [jgh]) (e := 0) (jA_115_438 (d := 0) (by omega)) (by rfl) (by rfl) (by decide +kernel) (by rfl) (by rfl) (by omega) (by omega) (by omega) (by omega) ⟨rfl, ⟨rfl, rfl, rfl⟩⟩
theorem jA_354_961 {xs : List Int} {d : Nat} {x2 : Int} (h_x2 : (-2147483648) ≤ x2 ∧ x2 ≤ (-1)) : jT xs (d + 2) 354 24 0 [(0, (4, 0)), (1, (0, 0)), (2, (0, x2)), (3, (0, 0)), (4, (4, 1))] [] jpA_1806 1 6 (fun k v hsN => k = 0 ∧ v = (0, 1) ∧ hsN = jpA_1806 ++ []) := by
  refine jT_xaload (v := (4, 1)) (pcN := 2) jI_354_0 rfl rfl rfl ?_
  refine jT_xiconst (k := 0) (pcN := 3) jI_354_2 rfl ?_
  refine jT_xaload_n (v := (4, 0)) (pcN := 4) jI_354_3 rfl rfl rfl ?_
  refine jT_xiload_n (v := (0, 0)) (pcN := 5) jI_354_4 rfl rfl rfl ?_
  refine jT_xiload_n (v := (0, x2)) (pcN := 6) jI_354_5 rfl rfl rfl ?_
  refine jT_xiload_n (v := (0, 0)) (pcN := 7) jI_354_6 rfl rfl rfl ?_
  exact jT_fX [0, 2, 3, 4, 5, 6, 7, 8, 9, 10, 11, 12, 13, 14, 15, 16, 17, 18, 19, 20, 21, 22, 23] 24 (y := 149) (pcN := 10) (dC := 1) (bc1 := 1) (bc2 := 6) (as := [(4, 0), (0, 0), (0, x2), (0, 0)]) (asC := [(4, 0), (0, 0), (0, x2), (0, 0)]) (LN := [(0, (4, 0)), (1, (0, 0)), (2, (0, x2)), (3, (0, 0)), (4, (4, 1))]) (stN := [(0, 0), (4, 1)]) (hsC := jpA_1805) (e := 0) (jA_149_960 (d := 0) (by omega)) (by rfl) (by rfl) (by decide +kernel) (by rfl) (by rfl) (by omega) (by omega) (by omega) (by omega) (show _ from ⟨rfl, rfl, rfl⟩)
theorem jA_279_962 {xs : List Int} {d : Nat} {x2 : Int} (h_x2 : (-2147483648) ≤ x2 ∧ x2 ≤ (-1)) : jT xs (d + 2) 279 16 0 [(0, (4, 0)), (1, (0, 0)), (2, (0, x2)), (3, (0, 0))] [] jpA_1519 0 0 (fun k v hsN => k = 0 ∧ v = (0, 0) ∧ hsN = jpA_1820) := by
  refine jT_xaload_n (v := (4, 0)) (pcN := 1) jI_279_0 rfl rfl rfl ?_
  refine jT_xiload_n (v := (0, 0)) (pcN := 2) jI_279_1 rfl rfl rfl ?_
  refine jT_fR [] 16 (y := 238) (pcN := 5) (dC := 1) (bc1 := 0) (bc2 := 0) (c1 := 0) (c2 := 0) (as := [(0, 0)]) (asC := [(0, 0)]) (LN := [(0, (4, 0)), (1, (0, 0)), (2, (0, x2)), (3, (0, 0))]) (stN := [(4, 0)]) (hsC := []) (v := (0, 1)) (st2 := [(0, 1), (4, 0)]) (jA_238_338 (d := 0)) (by rfl) (by rfl) (by decide +kernel) (by rfl) (by rfl) (by omega) (by omega) (by omega) (by omega) rfl ?_
  refine jT_fR [0, 1, 2, 3, 4, 5, 6, 7, 8, 9, 10, 11, 12, 13, 14, 15] 16 (y := 190) (pcN := 8) (dC := 1) (bc1 := 0) (bc2 := 0) (c1 := 0) (c2 := 0) (as := [(4, 0), (0, 1)]) (asC := [(4, 0), (0, 1)]) (LN := [(0, (4, 0)), (1, (0, 0)), (2, (0, x2)), (3, (0, 0))]) (stN := []) (hsC := jpA_22) (v := (0, 0)) (st2 := [(0, 0)]) (jA_190_39 (d := 0)) (by rfl) (by rfl) (by decide +kernel) (by rfl) (by rfl) (by omega) (by omega) (by omega) (by omega) rfl ?_
  refine jT_xifF (t := 25) (pcN := 11) jI_279_8 rfl (by decide +kernel) rfl rfl ?_
  refine jT_xaload_n (v := (4, 0)) (pcN := 12) jI_279_11 rfl rfl rfl ?_
  refine jT_xaload_n (v := (4, 0)) (pcN := 13) jI_279_12 rfl rfl rfl ?_
  refine jT_xiload_n (v := (0, 0)) (pcN := 14) jI_279_13 rfl rfl rfl ?_
  refine jT_xiload_n (v := (0, x2)) (pcN := 15) jI_279_14 rfl rfl rfl ?_
  refine jT_fR [0, 1, 2, 3, 4, 5, 6, 7, 8, 9, 10, 11, 12, 13, 14, 15] 16 (y := 247) (pcN := 18) (dC := 1) (bc1 := 0) (bc2 := 0) (c1 := 0) (c2 := 0) (as := [(4, 0), (0, 0), (0, x2)]) (asC := [(4, 0), (0, 0), (0, x2)]) (LN := [(0, (4, 0)), (1, (0, 0)), (2, (0, x2)), (3, (0, 0))]) (stN := [(4, 0)]) (hsC := jpA_1519) (v := (0, 0)) (st2 := [(0, 0), (4, 0)]) (jA_247_441 (d := 0) (by omega)) (by rfl) (by rfl) (by decide +kernel) (by rfl) (by rfl) (by omega) (by omega) (by omega) (by omega) rfl ?_
  refine jT_xiconst (k := 1) (pcN := 19) jI_279_18 rfl ?_
  refine jT_fB [0, 1, 2, 3, 4, 5, 6, 7, 8, 9, 10, 11, 12, 13, 14, 15] 16 (y := 191) (pcN := 22) (dC := 0) (bc1 := 0) (bc2 := 0) (c1 := 0) (c2 := 0) (as := [(4, 0), (0, 0), (0, 1)]) (asC := [(4, 0), (0, 0), (0, 1)]) (LN := [(0, (4, 0)), (1, (0, 0)), (2, (0, x2)), (3, (0, 0))]) (stN := []) (hsC := jpA_22) (hsD := jpA_20) (v := (0, 1)) (st2 := [(0, 1)]) (hs2 := jpA_1820) (jA_191_5 (d := 0)) (by rfl) (by rfl) (by decide +kernel) (by rfl) (by rfl) (by omega) (by omega) (by omega) (by omega) rfl (by decide +kernel) ?_
  refine jT_xifF (t := 27) (pcN := 25) jI_279_22 rfl (by decide +kernel) rfl rfl ?_
  refine jT_xiconst (k := 0) (pcN := 26) jI_279_25 rfl ?_
  exact jT_ret rfl (by decide) (by show 16 ≤ 16; decide) (by omega) (by omega) ⟨rfl, rfl, rfl⟩
theorem jA_45_963 {xs : List Int} {d : Nat} : jT xs (d + 1) 45 4 0 [(0, (4, 0)), (1, (4, 1)), (2, (1, 1)), (4, (1, 2400))] [] jpA_625 0 0 (fun k v hsN => k = 0 ∧ v = (1, 0) ∧ hsN = jpA_625 ++ []) := by
  refine jT_advK 10 (pcN := 17) (LN := [(0, (4, 0)), (1, (4, 1)), (2, (1, 1)), (4, (1, 2400))]) (stN := [(4, 1), (4, 0)]) (hsN := jpA_625) (c1 := 0) (s1 := 0) (c2 := 0) (s2 := 0) (by decide +kernel) ?_ (by omega) (by omega)
  refine jT_fR [0, 1] 4 (y := 39) (pcN := 20) (dC := 0) (bc1 := 0) (bc2 := 0) (c1 := 0) (c2 := 0) (as := [(4, 0), (4, 1)]) (asC := [(4, 0), (4, 1)]) (LN := [(0, (4, 0)), (1, (4, 1)), (2, (1, 1)), (4, (1, 2400))]) (stN := []) (hsC := [jgh, (101, [], [0, 0, 0, 0, 0, 0])]) (v := (1, 0)) (st2 := [(1, 0)]) (jA_39_144 (d := 0)) (by rfl) (by rfl) (by decide +kernel) (by rfl) (by rfl) (by omega) (by omega) (by omega) (by omega) rfl ?_
  refine jT_advK 11 (pcN := 36) (LN := [(6, (1, 0)), (0, (4, 0)), (1, (4, 1)), (2, (1, 1)), (4, (1, 2400))]) (stN := [(1, 1), (1, 0)]) (hsN := jpA_625) (c1 := 0) (s1 := 0) (c2 := 0) (s2 := 0) (by decide +kernel) ?_ (by omega) (by omega)
  refine jT_fR [] 4 (y := 373) (pcN := 39) (dC := 0) (bc1 := 0) (bc2 := 0) (c1 := 0) (c2 := 0) (as := [(1, 0), (1, 1)]) (asC := [(1, 0), (1, 1)]) (LN := [(6, (1, 0)), (0, (4, 0)), (1, (4, 1)), (2, (1, 1)), (4, (1, 2400))]) (stN := []) (hsC := []) (v := (1, 0)) (st2 := [(1, 0)]) (jA_373_145 (d := 0)) (by rfl) (by rfl) (by decide +kernel) (by rfl) (by rfl) (by omega) (by omega) (by omega) (by omega) rfl ?_
  exact jT_ret rfl (by decide) (by show 4 ≤ 4; decide) (by omega) (by omega) ⟨rfl, rfl, rfl⟩
theorem jA_44_964 {xs : List Int} {d : Nat} : jT xs (d + 2) 44 5 0 [(0, (4, 0)), (1, (4, 1)), (2, (1, 2400))] [] jpA_626 0 0 (fun k v hsN => k = 0 ∧ v = (1, 0) ∧ hsN = jpA_626 ++ []) := by
  refine jT_advK 6 (pcN := 10) (LN := [(0, (4, 0)), (1, (4, 1)), (2, (1, 2400))]) (stN := [(1, 2400), (1, 1), (4, 4), (4, 0)]) (hsN := jpA_626) (c1 := 0) (s1 := 0) (c2 := 0) (s2 := 0) (by decide +kernel) ?_ (by omega) (by omega)
  refine jT_fR [0, 4, 2, 3] 5 (y := 45) (pcN := 13) (dC := 1) (bc1 := 0) (bc2 := 0) (c1 := 0) (c2 := 0) (as := [(4, 0), (4, 4), (1, 1), (1, 2400)]) (asC := [(4, 0), (4, 1), (1, 1), (1, 2400)]) (LN := [(0, (4, 0)), (1, (4, 1)), (2, (1, 2400))]) (stN := []) (hsC := jpA_625) (v := (1, 0)) (st2 := [(1, 0)]) (jA_45_963 (d := 0)) (by rfl) (by rfl) (by decide +kernel) (by rfl) (by rfl) (by omega) (by omega) (by omega) (by omega) rfl ?_
  exact jT_ret rfl (by decide) (by show 5 ≤ 5; decide) (by omega) (by omega) ⟨rfl, rfl, rfl⟩
theorem jA_43_965 {xs : List Int} {d : Nat} : jT xs (d + 3) 43 5 0 [(0, (4, 0)), (1, (4, 1)), (2, (1, 1200))] [] jpA_626 0 0 (fun k v hsN => k = 0 ∧ v = (1, 0) ∧ hsN = jpA_626 ++ []) := by
  refine jT_advK 5 (pcN := 7) (LN := [(0, (4, 0)), (1, (4, 1)), (2, (1, 1200))]) (stN := [(1, 2400), (4, 1), (4, 0)]) (hsN := jpA_626) (c1 := 0) (s1 := 0) (c2 := 0) (s2 := 0) (by decide +kernel) ?_ (by omega) (by omega)
  refine jT_fR [0, 1, 2, 3, 4] 5 (y := 44) (pcN := 10) (dC := 2) (bc1 := 0) (bc2 := 0) (c1 := 0) (c2 := 0) (as := [(4, 0), (4, 1), (1, 2400)]) (asC := [(4, 0), (4, 1), (1, 2400)]) (LN := [(0, (4, 0)), (1, (4, 1)), (2, (1, 1200))]) (stN := []) (hsC := jpA_626) (v := (1, 0)) (st2 := [(1, 0)]) (jA_44_964 (d := 0)) (by rfl) (by rfl) (by decide +kernel) (by rfl) (by rfl) (by omega) (by omega) (by omega) (by omega) rfl ?_
  refine jT_advK 3 (pcN := 13) (LN := [(0, (4, 0)), (1, (4, 1)), (2, (1, 1200))]) (stN := [(0, 2), (1, 1)]) (hsN := jpA_626) (c1 := 0) (s1 := 0) (c2 := 0) (s2 := 0) (by decide +kernel) ?_ (by omega) (by omega)
  refine jT_fR [] 5 (y := 374) (pcN := 16) (dC := 1) (bc1 := 0) (bc2 := 0) (c1 := 0) (c2 := 0) (as := [(1, 1), (0, 2)]) (asC := [(1, 1), (0, 2)]) (LN := [(0, (4, 0)), (1, (4, 1)), (2, (1, 1200))]) (stN := []) (hsC := []) (v := (1, 0)) (st2 := [(1, 0)]) (jA_374_178 (d := 0)) (by rfl) (by rfl) (by decide +kernel) (by rfl) (by rfl) (by omega) (by omega) (by omega) (by omega) rfl ?_
  exact jT_ret rfl (by decide) (by show 5 ≤ 5; decide) (by omega) (by omega) ⟨rfl, rfl, rfl⟩
theorem jA_149_966 {xs : List Int} {d : Nat} : jT xs (d + 4) 149 26 0 [(0, (4, 0)), (1, (0, 0)), (2, (0, 0)), (3, (0, 0))] [] jpA_3613 0 0 (fun k v hsN => k = 0 ∧ v = (0, 0) ∧ hsN = jpA_3613 ++ []) := by
  refine jT_advK 3 (pcN := 3) (LN := [(0, (4, 0)), (1, (0, 0)), (2, (0, 0)), (3, (0, 0))]) (stN := [(0, 4), (0, 0), (4, 0)]) (hsN := jpA_3613) (c1 := 0) (s1 := 0) (c2 := 0) (s2 := 0) (by decide +kernel) ?_ (by omega) (by omega)
  refine jT_fR [0] 26 (y := 115) (pcN := 6) (dC := 0) (bc1 := 0) (bc2 := 0) (c1 := 0) (c2 := 0) (as := [(4, 0), (0, 0), (0, 4)]) (asC := [(4, 0), (0, 0), (0, 4)]) (LN := [(0, (4, 0)), (1, (0, 0)), (2, (0, 0)), (3, (0, 0))]) (stN := []) (hsC := [jgh]) (v := (9, 0)) (st2 := []) (jA_115_321 (d := 0)) (by rfl) (by rfl) (by decide +kernel) (by rfl) (by rfl) (by omega) (by omega) (by omega) (by omega) rfl ?_
  refine jT_advK 3 (pcN := 11) (LN := [(0, (4, 0)), (1, (0, 0)), (2, (0, 0)), (3, (0, 0))]) (stN := [(0, 0), (4, 11)]) (hsN := jpA_3613) (c1 := 0) (s1 := 0) (c2 := 0) (s2 := 0) (by decide +kernel) ?_ (by omega) (by omega)
  refine jT_fR [11, 14, 15, 16, 17, 18, 19, 20, 21, 22] 26 (y := 56) (pcN := 14) (dC := 0) (bc1 := 0) (bc2 := 0) (c1 := 0) (c2 := 0) (as := [(4, 11), (0, 0)]) (asC := [(4, 0), (0, 0)]) (LN := [(0, (4, 0)), (1, (0, 0)), (2, (0, 0)), (3, (0, 0))]) (stN := []) (hsC := jpA_1446) (v := (4, 6)) (st2 := [(4, 19)]) (jA_56_322 (d := 0)) (by rfl) (by rfl) (by decide +kernel) (by rfl) (by rfl) (by omega) (by omega) (by omega) (by omega) rfl ?_
  refine jT_advK 4 (pcN := 20) (LN := [(4, (4, 19)), (0, (4, 0)), (1, (0, 0)), (2, (0, 0)), (3, (0, 0))]) (stN := [(4, 19), (0, 0), (4, 0)]) (hsN := jpA_3613) (c1 := 0) (s1 := 0) (c2 := 0) (s2 := 0) (by decide +kernel) ?_ (by omega) (by omega)
  refine jT_fR [19, 23, 24] 26 (y := 29) (pcN := 23) (dC := 0) (bc1 := 0) (bc2 := 0) (c1 := 0) (c2 := 0) (as := [(4, 19)]) (asC := [(4, 0)]) (LN := [(4, (4, 19)), (0, (4, 0)), (1, (0, 0)), (2, (0, 0)), (3, (0, 0))]) (stN := [(0, 0), (4, 0)]) (hsC := [(7, [(4, 1), (4, (-1)), (4, (-1))], []), (114, [], [2]), jgh]) (v := (0, 1)) (st2 := [(0, 1), (0, 0), (4, 0)]) (jA_29_416 (d := 0)) (by rfl) (by rfl) (by decide +kernel) (by rfl) (by rfl) (by omega) (by omega) (by omega) (by omega) rfl ?_
  refine jT_fR [0] 26 (y := 115) (pcN := 26) (dC := 0) (bc1 := 0) (bc2 := 0) (c1 := 0) (c2 := 0) (as := [(4, 0), (0, 0), (0, 1)]) (asC := [(4, 0), (0, 0), (0, 1)]) (LN := [(4, (4, 19)), (0, (4, 0)), (1, (0, 0)), (2, (0, 0)), (3, (0, 0))]) (stN := []) (hsC := [jgh]) (v := (9, 0)) (st2 := []) (jA_115_443 (d := 0)) (by rfl) (by rfl) (by decide +kernel) (by rfl) (by rfl) (by omega) (by omega) (by omega) (by omega) rfl ?_
  refine jT_advK 6 (pcN := 46) (LN := [(4, (4, 19)), (0, (4, 0)), (1, (0, 0)), (2, (0, 0)), (3, (0, 0))]) (stN := [(0, 0), (4, 19), (4, 1)]) (hsN := jpA_3613) (c1 := 0) (s1 := 0) (c2 := 0) (s2 := 0) (by decide +kernel) ?_ (by omega) (by omega)
  refine jT_fR [19, 23, 24] 26 (y := 30) (pcN := 49) (dC := 0) (bc1 := 0) (bc2 := 0) (c1 := 0) (c2 := 0) (as := [(4, 19), (0, 0)]) (asC := [(4, 0), (0, 0)]) (LN := [(4, (4, 19)), (0, (4, 0)), (1, (0, 0)), (2, (0, 0)), (3, (0, 0))]) (stN := [(4, 1)]) (hsC := [(7, [(4, 1), (4, (-1)), (4, (-1))], []), (114, [], [2]), jgh]) (v := (4, 2)) (st2 := [(4, 24), (4, 1)]) (jA_30_538 (d := 0)) (by rfl) (by rfl) (by decide +kernel) (by rfl) (by rfl) (by omega) (by omega) (by omega) (by omega) rfl ?_
  refine jT_advK 1 (pcN := 52) (LN := [(4, (4, 19)), (0, (4, 0)), (1, (0, 0)), (2, (0, 0)), (3, (0, 0))]) (stN := [(1, 1200), (4, 24), (4, 1)]) (hsN := jpA_3613) (c1 := 0) (s1 := 0) (c2 := 0) (s2 := 0) (by decide +kernel) ?_ (by omega) (by omega)
  refine jT_fR [1, 24, 12, 13, 25] 26 (y := 43) (pcN := 55) (dC := 3) (bc1 := 0) (bc2 := 0) (c1 := 0) (c2 := 0) (as := [(4, 1), (4, 24), (1, 1200)]) (asC := [(4, 0), (4, 1), (1, 1200)]) (LN := [(4, (4, 19)), (0, (4, 0)), (1, (0, 0)), (2, (0, 0)), (3, (0, 0))]) (stN := []) (hsC := jpA_626) (v := (1, 0)) (st2 := [(1, 0)]) (jA_43_965 (d := 0)) (by rfl) (by rfl) (by decide +kernel) (by rfl) (by rfl) (by omega) (by omega) (by omega) (by omega) rfl ?_
  refine jT_advK 1 (pcN := 56) (LN := [(4, (4, 19)), (0, (4, 0)), (1, (0, 0)), (2, (0, 0)), (3, (0, 0))]) (stN := [(0, 0)]) (hsN := jpA_3613) (c1 := 0) (s1 := 0) (c2 := 0) (s2 := 0) (by decide +kernel) ?_ (by omega) (by omega)
  exact jT_ret rfl (by decide) (by show 26 ≤ 26; decide) (by omega) (by omega) ⟨rfl, rfl, rfl⟩
theorem jA_354_967 {xs : List Int} {d : Nat} : jT xs (d + 5) 354 27 0 [(0, (4, 0)), (1, (0, 0)), (2, (0, 0)), (3, (0, 0)), (4, (4, 1))] [] jpA_3615 0 0 (fun k v hsN => k = 0 ∧ v = (0, 0) ∧ hsN = jpA_3615 ++ []) := by
  refine jT_advK 6 (pcN := 7) (LN := [(0, (4, 0)), (1, (0, 0)), (2, (0, 0)), (3, (0, 0)), (4, (4, 1))]) (stN := [(0, 0), (0, 0), (0, 0), (4, 0), (0, 0), (4, 1)]) (hsN := jpA_3615) (c1 := 0) (s1 := 0) (c2 := 0) (s2 := 0) (by decide +kernel) ?_ (by omega) (by omega)
  refine jT_fR [0, 2, 3, 4, 5, 6, 7, 8, 9, 10, 11, 12, 13, 14, 15, 16, 17, 18, 19, 20, 21, 22, 23, 24, 25, 26] 27 (y := 149) (pcN := 10) (dC := 4) (bc1 := 0) (bc2 := 0) (c1 := 0) (c2 := 0) (as := [(4, 0), (0, 0), (0, 0), (0, 0)]) (asC := [(4, 0), (0, 0), (0, 0), (0, 0)]) (LN := [(0, (4, 0)), (1, (0, 0)), (2, (0, 0)), (3, (0, 0)), (4, (4, 1))]) (stN := [(0, 0), (4, 1)]) (hsC := jpA_3613) (v := (0, 0)) (st2 := [(0, 0), (0, 0), (4, 1)]) (jA_149_966 (d := 0)) (by rfl) (by rfl) (by decide +kernel) (by rfl) (by rfl) (by omega) (by omega) (by omega) (by omega) rfl ?_
  refine jT_advK 4 (pcN := 20) (LN := [(0, (4, 0)), (1, (0, 0)), (2, (0, 0)), (3, (0, 0)), (4, (4, 1))]) (stN := [(0, 0)]) (hsN := jpA_3615) (c1 := 0) (s1 := 0) (c2 := 0) (s2 := 0) (by decide +kernel) ?_ (by omega) (by omega)
  exact jT_ret rfl (by decide) (by show 27 ≤ 27; decide) (by omega) (by omega) ⟨rfl, rfl, rfl⟩
theorem jA_218_968 {xs : List Int} {d : Nat} : jT xs d 218 16 0 [(0, (4, 0)), (1, (1, 1200))] [] jpA_147 1 6 (fun k v hsN => k = 0 ∧ v = (4, 16) ∧ hsN = jpA_147 ++ [(101, [], [0, 0, 0, 0, 0, 0])]) := by
  refine jT_advK 93 (pcN := 35) (LN := [(4, (0, 6)), (3, (4, 16)), (0, (4, 0)), (1, (1, 1200))]) (stN := [(4, 16)]) (hsN := jpA_984) (c1 := 1) (s1 := 6) (c2 := 0) (s2 := 0) (by decide +kernel) ?_ (by omega) (by omega)
  exact jT_ret rfl (by decide) (by show 16 ≤ 17; decide) (by omega) (by omega) ⟨rfl, rfl, rfl⟩
def jpA_3652 : List JC := [jzA_21, jgh, jgh, jgh, jgh, jgh, (130, [], [16, 17, 18, 19, 20, 21]), (101, [], [0, 0, 0, 0, 0, 0]), jgh, jgh, jgh, jgh, jgh, jgh, jgh, jgh, (100, [], (jenc (jlg 0))), jgh, jgh, jgh, jgh, jgh, (101, [], [0, 0, 0, 0, 0, 0])]
def jpA_3653 : List JC := [jzA_21, jgh, jgh, jgh, jgh, jgh, (130, [], [16, 17, 18, 19, 20, 21]), (101, [], [0, 0, 0, 0, 0, 0]), jgh, jgh, jgh, jgh, jgh, jgh, jgh, jgh, (100, [], (jenc (jlg 0))), jgh, jgh, jgh, jgh, jgh, (101, [], [0, 0, 0, 0, 0, 0]), (101, [], [1, 0, 0, 0, 0, 0]), (101, [], [1, 0, 0, 0, 0, 0]), (100, [], (jenc 0)), (100, [], (jenc 1)), (100, [], (jenc (1 * (jlg 0)))), (101, [], [(-1), 0, 0, 0, 0, 0]), (100, [], (jenc 0)), (100, [], (jenc (-1))), (100, [], (jenc ((-1) * (jlg 0))))]
def jpA_3654 : List JC := [(101, [], [0, 0, 0, 0, 0, 0]), (101, [], [1, 0, 0, 0, 0, 0]), (101, [], [1, 0, 0, 0, 0, 0]), (100, [], (jenc 0)), (100, [], (jenc 1)), (100, [], (jenc (1 * (jlg 0)))), (101, [], [(-1), 0, 0, 0, 0, 0]), (100, [], (jenc 0)), (100, [], (jenc (-1))), (100, [], (jenc ((-1) * (jlg 0))))]
theorem jA_265_969 {xs : List Int} {d : Nat} : jT xs (d + 7) 265 22 0 [(0, (4, 0)), (1, (1, 1)), (3, (0, 2))] [] jpA_684 10 360 (fun k v hsN => k = 0 ∧ v = (1, 0) ∧ hsN = jpA_684 ++ jpA_3654) := by
  refine jT_advK 4 (pcN := 6) (LN := [(0, (4, 0)), (1, (1, 1)), (3, (0, 2))]) (stN := [(1, 1200), (4, 0)]) (hsN := jpA_684) (c1 := 0) (s1 := 0) (c2 := 10) (s2 := 360) (by decide +kernel) ?_ (by omega) (by omega)
  refine jT_fA [0, 1, 2, 3, 4, 5, 6, 7, 8, 9, 10, 11, 12, 13, 14, 15] 22 (y := 218) (pcN := 9) (dC := 0) (bc1 := 1) (bc2 := 6) (c1 := 9) (c2 := 354) (as := [(4, 0), (1, 1200)]) (asC := [(4, 0), (1, 1200)]) (LN := [(0, (4, 0)), (1, (1, 1)), (3, (0, 2))]) (stN := []) (hsC := jpA_147) (ex := [(101, [], [0, 0, 0, 0, 0, 0])]) (v := (4, 16)) (st2 := [(4, 22)]) (hs2 := jpA_3652) (jA_218_968 (d := 0)) (by rfl) (by rfl) (by decide +kernel) (by rfl) (by rfl) (by omega) (by omega) (by omega) (by omega) rfl (by decide +kernel) ?_
  refine jT_advK 8 (pcN := 23) (LN := [(4, (4, 22)), (0, (4, 0)), (1, (1, 1)), (3, (0, 2))]) (stN := [(1, 1), (4, 22), (4, 0)]) (hsN := jpA_3652) (c1 := 0) (s1 := 0) (c2 := 9) (s2 := 354) (by decide +kernel) ?_ (by omega) (by omega)
  refine jT_fA [0, 22, 1, 2, 3, 4, 5, 6, 7, 8, 9, 10, 11, 12, 13, 14, 15, 16, 17, 18, 19, 20, 21] 23 (y := 216) (pcN := 26) (dC := 6) (bc1 := 9) (bc2 := 354) (c1 := 0) (c2 := 0) (as := [(4, 0), (4, 22), (1, 1)]) (asC := [(4, 0), (4, 1), (1, 1)]) (LN := [(4, (4, 22)), (0, (4, 0)), (1, (1, 1)), (3, (0, 2))]) (stN := []) (hsC := jpA_987) (ex := jpA_839) (v := (1, 0)) (st2 := [(1, 0)]) (hs2 := jpA_3653) (jA_216_228 (d := 0)) (by rfl) (by rfl) (by decide +kernel) (by rfl) (by rfl) (by omega) (by omega) (by omega) (by omega) rfl (by decide +kernel) ?_
  exact jT_ret rfl (by decide) (by show 22 ≤ 32; decide) (by omega) (by omega) ⟨rfl, rfl, rfl⟩
def jpA_3655 : List JC := [jzA_21, (100, [], jS0), jgh, jgh, jgh, jgh, (130, [], [16, 17, 18, 19, 20, 21]), (101, [], [0, 0, 0, 0, 0, 0]), jgh, jgh, jgh, jgh, jgh, jgh, jgh, jgh, (100, [], (jenc (jlg 0))), jgh, jgh, jgh, jgh, jgh, (101, [], [0, 0, 0, 0, 0, 0]), (101, [], [1, 0, 0, 0, 0, 0]), (101, [], [1, 0, 0, 0, 0, 0]), (100, [], (jenc 0)), (100, [], (jenc 1)), (100, [], (jenc (1 * (jlg 0)))), (101, [], [(-1), 0, 0, 0, 0, 0]), (100, [], (jenc 0)), (100, [], (jenc (-1))), (100, [], (jenc ((-1) * (jlg 0))))]
theorem jA_279_970 {xs : List Int} {d : Nat} : jT xs (d + 8) 279 22 0 [(0, (4, 0)), (1, (0, 0)), (2, (0, 0)), (3, (0, 0))] [] jpA_1695 10 360 (fun k v hsN => k = 0 ∧ v = (0, 0) ∧ hsN = jpA_1695 ++ jpA_3654) := by
  refine jT_advK 2 (pcN := 2) (LN := [(0, (4, 0)), (1, (0, 0)), (2, (0, 0)), (3, (0, 0))]) (stN := [(0, 0), (4, 0)]) (hsN := jpA_1695) (c1 := 0) (s1 := 0) (c2 := 10) (s2 := 360) (by decide +kernel) ?_ (by omega) (by omega)
  refine jT_fR [] 22 (y := 238) (pcN := 5) (dC := 1) (bc1 := 0) (bc2 := 0) (c1 := 10) (c2 := 360) (as := [(0, 0)]) (asC := [(0, 0)]) (LN := [(0, (4, 0)), (1, (0, 0)), (2, (0, 0)), (3, (0, 0))]) (stN := [(4, 0)]) (hsC := []) (v := (0, 1)) (st2 := [(0, 1), (4, 0)]) (jA_238_338 (d := 0)) (by rfl) (by rfl) (by decide +kernel) (by rfl) (by rfl) (by omega) (by omega) (by omega) (by omega) rfl ?_
  refine jT_fR [0, 1, 2, 3, 4, 5, 6, 7, 8, 9, 10, 11, 12, 13, 14, 15] 22 (y := 190) (pcN := 8) (dC := 1) (bc1 := 0) (bc2 := 0) (c1 := 10) (c2 := 360) (as := [(4, 0), (0, 1)]) (asC := [(4, 0), (0, 1)]) (LN := [(0, (4, 0)), (1, (0, 0)), (2, (0, 0)), (3, (0, 0))]) (stN := []) (hsC := jpA_22) (v := (0, 0)) (st2 := [(0, 0)]) (jA_190_39 (d := 0)) (by rfl) (by rfl) (by decide +kernel) (by rfl) (by rfl) (by omega) (by omega) (by omega) (by omega) rfl ?_
  refine jT_advK 5 (pcN := 15) (LN := [(0, (4, 0)), (1, (0, 0)), (2, (0, 0)), (3, (0, 0))]) (stN := [(0, 0), (0, 0), (4, 0), (4, 0)]) (hsN := jpA_1695) (c1 := 0) (s1 := 0) (c2 := 10) (s2 := 360) (by decide +kernel) ?_ (by omega) (by omega)
  refine jT_fR [0, 1, 2, 3, 4, 5, 6, 7, 8, 9, 10, 11, 12, 13, 14, 15] 22 (y := 247) (pcN := 18) (dC := 1) (bc1 := 0) (bc2 := 0) (c1 := 10) (c2 := 360) (as := [(4, 0), (0, 0), (0, 0)]) (asC := [(4, 0), (0, 0), (0, 0)]) (LN := [(0, (4, 0)), (1, (0, 0)), (2, (0, 0)), (3, (0, 0))]) (stN := [(4, 0)]) (hsC := jpA_1519) (v := (0, 1)) (st2 := [(0, 1), (4, 0)]) (jA_247_449 (d := 0)) (by rfl) (by rfl) (by decide +kernel) (by rfl) (by rfl) (by omega) (by omega) (by omega) (by omega) rfl ?_
  refine jT_advK 1 (pcN := 19) (LN := [(0, (4, 0)), (1, (0, 0)), (2, (0, 0)), (3, (0, 0))]) (stN := [(0, 1), (0, 1), (4, 0)]) (hsN := jpA_1695) (c1 := 0) (s1 := 0) (c2 := 10) (s2 := 360) (by decide +kernel) ?_ (by omega) (by omega)
  refine jT_fR [0] 22 (y := 191) (pcN := 22) (dC := 0) (bc1 := 0) (bc2 := 0) (c1 := 10) (c2 := 360) (as := [(4, 0), (0, 1), (0, 1)]) (asC := [(4, 0), (0, 1), (0, 1)]) (LN := [(0, (4, 0)), (1, (0, 0)), (2, (0, 0)), (3, (0, 0))]) (stN := []) (hsC := [jgh]) (v := (0, 0)) (st2 := [(0, 0)]) (jA_191_38 (d := 0)) (by rfl) (by rfl) (by decide +kernel) (by rfl) (by rfl) (by omega) (by omega) (by omega) (by omega) rfl ?_
  refine jT_advK 8 (pcN := 47) (LN := [(0, (4, 0)), (1, (0, 0)), (2, (0, 0)), (3, (0, 0))]) (stN := [(0, 0), (0, 0), (4, 1), (4, 0)]) (hsN := jpA_1695) (c1 := 0) (s1 := 0) (c2 := 10) (s2 := 360) (by decide +kernel) ?_ (by omega) (by omega)
  refine jT_fR [] 22 (y := 242) (pcN := 50) (dC := 0) (bc1 := 0) (bc2 := 0) (c1 := 10) (c2 := 360) (as := [(0, 0), (0, 0)]) (asC := [(0, 0), (0, 0)]) (LN := [(0, (4, 0)), (1, (0, 0)), (2, (0, 0)), (3, (0, 0))]) (stN := [(4, 1), (4, 0)]) (hsC := []) (v := (0, 57)) (st2 := [(0, 57), (4, 1), (4, 0)]) (jA_242_340 (d := 0)) (by rfl) (by rfl) (by decide +kernel) (by rfl) (by rfl) (by omega) (by omega) (by omega) (by omega) rfl ?_
  refine jT_fR [0, 1, 2, 3, 4, 5, 6, 7, 8, 9, 10, 11, 12, 13, 14, 15] 22 (y := 203) (pcN := 53) (dC := 0) (bc1 := 0) (bc2 := 0) (c1 := 10) (c2 := 360) (as := [(4, 0), (4, 1), (0, 57)]) (asC := [(4, 0), (4, 1), (0, 57)]) (LN := [(0, (4, 0)), (1, (0, 0)), (2, (0, 0)), (3, (0, 0))]) (stN := []) (hsC := jpA_130) (v := (9, 0)) (st2 := []) (jA_203_344 (d := 0)) (by rfl) (by rfl) (by decide +kernel) (by rfl) (by rfl) (by omega) (by omega) (by omega) (by omega) rfl ?_
  refine jT_advK 3 (pcN := 56) (LN := [(0, (4, 0)), (1, (0, 0)), (2, (0, 0)), (3, (0, 0))]) (stN := [(0, 2), (1, 1), (4, 0)]) (hsN := jpA_1695) (c1 := 0) (s1 := 0) (c2 := 10) (s2 := 360) (by decide +kernel) ?_ (by omega) (by omega)
  refine jT_fA [0, 1, 2, 3, 4, 5, 6, 7, 8, 9, 10, 11, 12, 13, 14, 15, 16, 17, 18, 19, 20, 21] 22 (y := 265) (pcN := 59) (dC := 7) (bc1 := 10) (bc2 := 360) (c1 := 0) (c2 := 0) (as := [(4, 0), (1, 1), (0, 2)]) (asC := [(4, 0), (1, 1), (0, 2)]) (LN := [(0, (4, 0)), (1, (0, 0)), (2, (0, 0)), (3, (0, 0))]) (stN := []) (hsC := jpA_684) (ex := jpA_3654) (v := (1, 0)) (st2 := [(1, 0)]) (hs2 := jpA_3655) (jA_265_969 (d := 0)) (by rfl) (by rfl) (by decide +kernel) (by rfl) (by rfl) (by omega) (by omega) (by omega) (by omega) rfl (by decide +kernel) ?_
  refine jT_advK 1 (pcN := 60) (LN := [(0, (4, 0)), (1, (0, 0)), (2, (0, 0)), (3, (0, 0))]) (stN := [(0, 0)]) (hsN := jpA_3655) (c1 := 0) (s1 := 0) (c2 := 0) (s2 := 0) (by decide +kernel) ?_ (by omega) (by omega)
  exact jT_ret rfl (by decide) (by show 22 ≤ 32; decide) (by omega) (by omega) ⟨rfl, rfl, rfl⟩
theorem jA_149_971 {xs : List Int} {d : Nat} {x2 : Int} (h_x2 : 1 ≤ x2 ∧ x2 ≤ 2147483647) : jT xs (d + 1) 149 23 0 [(0, (4, 0)), (1, (0, 0)), (2, (0, x2)), (3, (0, 0))] [] jpA_1805 1 6 (fun k v hsN => k = 1 ∧ v = (0, 0) ∧ hsN = jpA_1805 ++ []) := by
  refine jT_xaload_n (v := (4, 0)) (pcN := 1) jI_149_0 rfl rfl rfl ?_
  refine jT_xiload_n (v := (0, 0)) (pcN := 2) jI_149_1 rfl rfl rfl ?_
  refine jT_xiconst (k := 4) (pcN := 3) jI_149_2 rfl ?_
  refine jT_fR [0] 23 (y := 115) (pcN := 6) (dC := 0) (bc1 := 0) (bc2 := 0) (c1 := 1) (c2 := 6) (as := [(4, 0), (0, 0), (0, 4)]) (asC := [(4, 0), (0, 0), (0, 4)]) (LN := [(0, (4, 0)), (1, (0, 0)), (2, (0, x2)), (3, (0, 0))]) (stN := []) (hsC := [jgh]) (v := (9, 0)) (st2 := []) (jA_115_321 (d := 0)) (by rfl) (by rfl) (by decide +kernel) (by rfl) (by rfl) (by omega) (by omega) (by omega) (by omega) rfl ?_
  refine jT_xaload_n (v := (4, 0)) (pcN := 7) jI_149_6 rfl rfl rfl ?_
  refine jT_xgetf (a := 0) (t := 1) (ci := 13) (fi := 11) (c := jzA_5) (v := (4, 11)) (pcN := 10) jI_149_7 rfl rfl rfl rfl rfl rfl rfl ?_
  refine jT_xiload_n (v := (0, 0)) (pcN := 11) jI_149_10 rfl rfl rfl ?_
  refine jT_fR [11, 12, 13, 14, 15, 16, 17, 18, 19, 20] 23 (y := 56) (pcN := 14) (dC := 0) (bc1 := 0) (bc2 := 0) (c1 := 1) (c2 := 6) (as := [(4, 11), (0, 0)]) (asC := [(4, 0), (0, 0)]) (LN := [(0, (4, 0)), (1, (0, 0)), (2, (0, x2)), (3, (0, 0))]) (stN := []) (hsC := jpA_1446) (v := (4, 6)) (st2 := [(4, 17)]) (jA_56_322 (d := 0)) (by rfl) (by rfl) (by decide +kernel) (by rfl) (by rfl) (by omega) (by omega) (by omega) (by omega) rfl ?_
  refine jT_xastore (v := (4, 17)) (LN := [(4, (4, 17)), (0, (4, 0)), (1, (0, 0)), (2, (0, x2)), (3, (0, 0))]) (pcN := 16) jI_149_14 rfl rfl rfl rfl ?_
  refine jT_xaload_n (v := (4, 0)) (pcN := 17) jI_149_16 rfl rfl rfl ?_
  refine jT_xiload_n (v := (0, x2)) (pcN := 18) jI_149_17 rfl rfl rfl ?_
  refine jT_xaload (v := (4, 17)) (pcN := 20) jI_149_18 rfl rfl rfl ?_
  refine jT_fR [17, 21, 22] 23 (y := 29) (pcN := 23) (dC := 0) (bc1 := 0) (bc2 := 0) (c1 := 1) (c2 := 6) (as := [(4, 17)]) (asC := [(4, 0)]) (LN := [(4, (4, 17)), (0, (4, 0)), (1, (0, 0)), (2, (0, x2)), (3, (0, 0))]) (stN := [(0, x2), (4, 0)]) (hsC := [(7, [(4, 1), (4, (-1)), (4, (-1))], []), (114, [], [2]), jgh]) (v := (0, 1)) (st2 := [(0, 1), (0, x2), (4, 0)]) (jA_29_416 (d := 0)) (by rfl) (by rfl) (by decide +kernel) (by rfl) (by rfl) (by omega) (by omega) (by omega) (by omega) rfl ?_
  exact jT_fX [0] 23 (y := 115) (pcN := 26) (dC := 0) (bc1 := 1) (bc2 := 6) (as := [(4, 0), (0, x2), (0, 1)]) (asC := [(4, 0), (0, x2), (0, 1)]) (LN := [(4, (4, 17)), (0, (4, 0)), (1, (0, 0)), (2, (0, x2)), (3, (0, 0))]) (stN := []) (hsC := [jgh]) (e := 0) (jA_115_453 (d := 0) (by omega)) (by rfl) (by rfl) (by decide +kernel) (by rfl) (by rfl) (by omega) (by omega) (by omega) (by omega) ⟨rfl, ⟨rfl, rfl, rfl⟩⟩
theorem jA_354_972 {xs : List Int} {d : Nat} {x2 : Int} (h_x2 : 1 ≤ x2 ∧ x2 ≤ 2147483647) : jT xs (d + 2) 354 24 0 [(0, (4, 0)), (1, (0, 0)), (2, (0, x2)), (3, (0, 0)), (4, (4, 1))] [] jpA_1806 1 6 (fun k v hsN => k = 0 ∧ v = (0, 1) ∧ hsN = jpA_1806 ++ []) := by
  refine jT_xaload (v := (4, 1)) (pcN := 2) jI_354_0 rfl rfl rfl ?_
  refine jT_xiconst (k := 0) (pcN := 3) jI_354_2 rfl ?_
  refine jT_xaload_n (v := (4, 0)) (pcN := 4) jI_354_3 rfl rfl rfl ?_
  refine jT_xiload_n (v := (0, 0)) (pcN := 5) jI_354_4 rfl rfl rfl ?_
  refine jT_xiload_n (v := (0, x2)) (pcN := 6) jI_354_5 rfl rfl rfl ?_
  refine jT_xiload_n (v := (0, 0)) (pcN := 7) jI_354_6 rfl rfl rfl ?_
  exact jT_fX [0, 2, 3, 4, 5, 6, 7, 8, 9, 10, 11, 12, 13, 14, 15, 16, 17, 18, 19, 20, 21, 22, 23] 24 (y := 149) (pcN := 10) (dC := 1) (bc1 := 1) (bc2 := 6) (as := [(4, 0), (0, 0), (0, x2), (0, 0)]) (asC := [(4, 0), (0, 0), (0, x2), (0, 0)]) (LN := [(0, (4, 0)), (1, (0, 0)), (2, (0, x2)), (3, (0, 0)), (4, (4, 1))]) (stN := [(0, 0), (4, 1)]) (hsC := jpA_1805) (e := 0) (jA_149_971 (d := 0) (by omega)) (by rfl) (by rfl) (by decide +kernel) (by rfl) (by rfl) (by omega) (by omega) (by omega) (by omega) (show _ from ⟨rfl, rfl, rfl⟩)
theorem jA_279_973 {xs : List Int} {d : Nat} {x2 : Int} (h_x2 : 1 ≤ x2 ∧ x2 ≤ 2147483647) : jT xs (d + 2) 279 16 0 [(0, (4, 0)), (1, (0, 0)), (2, (0, x2)), (3, (0, 0))] [] jpA_1519 0 0 (fun k v hsN => k = 0 ∧ v = (0, 0) ∧ hsN = jpA_1820) := by
  refine jT_xaload_n (v := (4, 0)) (pcN := 1) jI_279_0 rfl rfl rfl ?_
  refine jT_xiload_n (v := (0, 0)) (pcN := 2) jI_279_1 rfl rfl rfl ?_
  refine jT_fR [] 16 (y := 238) (pcN := 5) (dC := 1) (bc1 := 0) (bc2 := 0) (c1 := 0) (c2 := 0) (as := [(0, 0)]) (asC := [(0, 0)]) (LN := [(0, (4, 0)), (1, (0, 0)), (2, (0, x2)), (3, (0, 0))]) (stN := [(4, 0)]) (hsC := []) (v := (0, 1)) (st2 := [(0, 1), (4, 0)]) (jA_238_338 (d := 0)) (by rfl) (by rfl) (by decide +kernel) (by rfl) (by rfl) (by omega) (by omega) (by omega) (by omega) rfl ?_
  refine jT_fR [0, 1, 2, 3, 4, 5, 6, 7, 8, 9, 10, 11, 12, 13, 14, 15] 16 (y := 190) (pcN := 8) (dC := 1) (bc1 := 0) (bc2 := 0) (c1 := 0) (c2 := 0) (as := [(4, 0), (0, 1)]) (asC := [(4, 0), (0, 1)]) (LN := [(0, (4, 0)), (1, (0, 0)), (2, (0, x2)), (3, (0, 0))]) (stN := []) (hsC := jpA_22) (v := (0, 0)) (st2 := [(0, 0)]) (jA_190_39 (d := 0)) (by rfl) (by rfl) (by decide +kernel) (by rfl) (by rfl) (by omega) (by omega) (by omega) (by omega) rfl ?_
  refine jT_xifF (t := 25) (pcN := 11) jI_279_8 rfl (by decide +kernel) rfl rfl ?_
  refine jT_xaload_n (v := (4, 0)) (pcN := 12) jI_279_11 rfl rfl rfl ?_
  refine jT_xaload_n (v := (4, 0)) (pcN := 13) jI_279_12 rfl rfl rfl ?_
  refine jT_xiload_n (v := (0, 0)) (pcN := 14) jI_279_13 rfl rfl rfl ?_
  refine jT_xiload_n (v := (0, x2)) (pcN := 15) jI_279_14 rfl rfl rfl ?_
  refine jT_fR [0, 1, 2, 3, 4, 5, 6, 7, 8, 9, 10, 11, 12, 13, 14, 15] 16 (y := 247) (pcN := 18) (dC := 1) (bc1 := 0) (bc2 := 0) (c1 := 0) (c2 := 0) (as := [(4, 0), (0, 0), (0, x2)]) (asC := [(4, 0), (0, 0), (0, x2)]) (LN := [(0, (4, 0)), (1, (0, 0)), (2, (0, x2)), (3, (0, 0))]) (stN := [(4, 0)]) (hsC := jpA_1519) (v := (0, 0)) (st2 := [(0, 0), (4, 0)]) (jA_247_456 (d := 0) (by omega)) (by rfl) (by rfl) (by decide +kernel) (by rfl) (by rfl) (by omega) (by omega) (by omega) (by omega) rfl ?_
  refine jT_xiconst (k := 1) (pcN := 19) jI_279_18 rfl ?_
  refine jT_fB [0, 1, 2, 3, 4, 5, 6, 7, 8, 9, 10, 11, 12, 13, 14, 15] 16 (y := 191) (pcN := 22) (dC := 0) (bc1 := 0) (bc2 := 0) (c1 := 0) (c2 := 0) (as := [(4, 0), (0, 0), (0, 1)]) (asC := [(4, 0), (0, 0), (0, 1)]) (LN := [(0, (4, 0)), (1, (0, 0)), (2, (0, x2)), (3, (0, 0))]) (stN := []) (hsC := jpA_22) (hsD := jpA_20) (v := (0, 1)) (st2 := [(0, 1)]) (hs2 := jpA_1820) (jA_191_5 (d := 0)) (by rfl) (by rfl) (by decide +kernel) (by rfl) (by rfl) (by omega) (by omega) (by omega) (by omega) rfl (by decide +kernel) ?_
  refine jT_xifF (t := 27) (pcN := 25) jI_279_22 rfl (by decide +kernel) rfl rfl ?_
  refine jT_xiconst (k := 0) (pcN := 26) jI_279_25 rfl ?_
  exact jT_ret rfl (by decide) (by show 16 ≤ 16; decide) (by omega) (by omega) ⟨rfl, rfl, rfl⟩
theorem jA_149_974 {xs : List Int} {d : Nat} {x2 : Int} (h_x2 : (-2147483648) ≤ x2 ∧ x2 ≤ (-1)) : jT xs (d + 1) 149 23 0 [(0, (4, 0)), (1, (0, 1)), (2, (0, x2)), (3, (0, 0))] [] jpA_1845 1 6 (fun k v hsN => k = 1 ∧ v = (0, 0) ∧ hsN = jpA_1845 ++ []) := by
  refine jT_xaload_n (v := (4, 0)) (pcN := 1) jI_149_0 rfl rfl rfl ?_
  refine jT_xiload_n (v := (0, 1)) (pcN := 2) jI_149_1 rfl rfl rfl ?_
  refine jT_xiconst (k := 4) (pcN := 3) jI_149_2 rfl ?_
  refine jT_fR [0] 23 (y := 115) (pcN := 6) (dC := 0) (bc1 := 0) (bc2 := 0) (c1 := 1) (c2 := 6) (as := [(4, 0), (0, 1), (0, 4)]) (asC := [(4, 0), (0, 1), (0, 4)]) (LN := [(0, (4, 0)), (1, (0, 1)), (2, (0, x2)), (3, (0, 0))]) (stN := []) (hsC := [jgh]) (v := (9, 0)) (st2 := []) (jA_115_356 (d := 0)) (by rfl) (by rfl) (by decide +kernel) (by rfl) (by rfl) (by omega) (by omega) (by omega) (by omega) rfl ?_
  refine jT_xaload_n (v := (4, 0)) (pcN := 7) jI_149_6 rfl rfl rfl ?_
  refine jT_xgetf (a := 0) (t := 1) (ci := 13) (fi := 11) (c := jzA_5) (v := (4, 11)) (pcN := 10) jI_149_7 rfl rfl rfl rfl rfl rfl rfl ?_
  refine jT_xiload_n (v := (0, 1)) (pcN := 11) jI_149_10 rfl rfl rfl ?_
  refine jT_fR [11, 12, 13, 14, 15, 16, 17, 18, 19, 20] 23 (y := 56) (pcN := 14) (dC := 0) (bc1 := 0) (bc2 := 0) (c1 := 1) (c2 := 6) (as := [(4, 11), (0, 1)]) (asC := [(4, 0), (0, 1)]) (LN := [(0, (4, 0)), (1, (0, 1)), (2, (0, x2)), (3, (0, 0))]) (stN := []) (hsC := jpA_1446) (v := (4, 7)) (st2 := [(4, 18)]) (jA_56_357 (d := 0)) (by rfl) (by rfl) (by decide +kernel) (by rfl) (by rfl) (by omega) (by omega) (by omega) (by omega) rfl ?_
  refine jT_xastore (v := (4, 18)) (LN := [(4, (4, 18)), (0, (4, 0)), (1, (0, 1)), (2, (0, x2)), (3, (0, 0))]) (pcN := 16) jI_149_14 rfl rfl rfl rfl ?_
  refine jT_xaload_n (v := (4, 0)) (pcN := 17) jI_149_16 rfl rfl rfl ?_
  refine jT_xiload_n (v := (0, x2)) (pcN := 18) jI_149_17 rfl rfl rfl ?_
  refine jT_xaload (v := (4, 18)) (pcN := 20) jI_149_18 rfl rfl rfl ?_
  refine jT_fR [18, 21, 22] 23 (y := 29) (pcN := 23) (dC := 0) (bc1 := 0) (bc2 := 0) (c1 := 1) (c2 := 6) (as := [(4, 18)]) (asC := [(4, 0)]) (LN := [(4, (4, 18)), (0, (4, 0)), (1, (0, 1)), (2, (0, x2)), (3, (0, 0))]) (stN := [(0, x2), (4, 0)]) (hsC := [(7, [(4, 1), (4, (-1)), (4, (-1))], []), (114, [], [2]), jgh]) (v := (0, 1)) (st2 := [(0, 1), (0, x2), (4, 0)]) (jA_29_416 (d := 0)) (by rfl) (by rfl) (by decide +kernel) (by rfl) (by rfl) (by omega) (by omega) (by omega) (by omega) rfl ?_
  exact jT_fX [0] 23 (y := 115) (pcN := 26) (dC := 0) (bc1 := 1) (bc2 := 6) (as := [(4, 0), (0, x2), (0, 1)]) (asC := [(4, 0), (0, x2), (0, 1)]) (LN := [(4, (4, 18)), (0, (4, 0)), (1, (0, 1)), (2, (0, x2)), (3, (0, 0))]) (stN := []) (hsC := [jgh]) (e := 0) (jA_115_438 (d := 0) (by omega)) (by rfl) (by rfl) (by decide +kernel) (by rfl) (by rfl) (by omega) (by omega) (by omega) (by omega) ⟨rfl, ⟨rfl, rfl, rfl⟩⟩
theorem jA_354_975 {xs : List Int} {d : Nat} {x2 : Int} (h_x2 : (-2147483648) ≤ x2 ∧ x2 ≤ (-1)) : jT xs (d + 2) 354 24 0 [(0, (4, 0)), (1, (0, 1)), (2, (0, x2)), (3, (0, 0)), (4, (4, 1))] [] jpA_1846 1 6 (fun k v hsN => k = 0 ∧ v = (0, 1) ∧ hsN = jpA_1846 ++ []) := by
  refine jT_xaload (v := (4, 1)) (pcN := 2) jI_354_0 rfl rfl rfl ?_
  refine jT_xiconst (k := 0) (pcN := 3) jI_354_2 rfl ?_
  refine jT_xaload_n (v := (4, 0)) (pcN := 4) jI_354_3 rfl rfl rfl ?_
  refine jT_xiload_n (v := (0, 1)) (pcN := 5) jI_354_4 rfl rfl rfl ?_
  refine jT_xiload_n (v := (0, x2)) (pcN := 6) jI_354_5 rfl rfl rfl ?_
  refine jT_xiload_n (v := (0, 0)) (pcN := 7) jI_354_6 rfl rfl rfl ?_
  exact jT_fX [0, 2, 3, 4, 5, 6, 7, 8, 9, 10, 11, 12, 13, 14, 15, 16, 17, 18, 19, 20, 21, 22, 23] 24 (y := 149) (pcN := 10) (dC := 1) (bc1 := 1) (bc2 := 6) (as := [(4, 0), (0, 1), (0, x2), (0, 0)]) (asC := [(4, 0), (0, 1), (0, x2), (0, 0)]) (LN := [(0, (4, 0)), (1, (0, 1)), (2, (0, x2)), (3, (0, 0)), (4, (4, 1))]) (stN := [(0, 0), (4, 1)]) (hsC := jpA_1845) (e := 0) (jA_149_974 (d := 0) (by omega)) (by rfl) (by rfl) (by decide +kernel) (by rfl) (by rfl) (by omega) (by omega) (by omega) (by omega) (show _ from ⟨rfl, rfl, rfl⟩)
theorem jA_279_976 {xs : List Int} {d : Nat} {x2 : Int} (h_x2 : (-2147483648) ≤ x2 ∧ x2 ≤ (-1)) : jT xs (d + 2) 279 16 0 [(0, (4, 0)), (1, (0, 1)), (2, (0, x2)), (3, (0, 0))] [] jpA_1519 0 0 (fun k v hsN => k = 0 ∧ v = (0, 0) ∧ hsN = jpA_1820) := by
  refine jT_xaload_n (v := (4, 0)) (pcN := 1) jI_279_0 rfl rfl rfl ?_
  refine jT_xiload_n (v := (0, 1)) (pcN := 2) jI_279_1 rfl rfl rfl ?_
  refine jT_fR [] 16 (y := 238) (pcN := 5) (dC := 1) (bc1 := 0) (bc2 := 0) (c1 := 0) (c2 := 0) (as := [(0, 1)]) (asC := [(0, 1)]) (LN := [(0, (4, 0)), (1, (0, 1)), (2, (0, x2)), (3, (0, 0))]) (stN := [(4, 0)]) (hsC := []) (v := (0, 1)) (st2 := [(0, 1), (4, 0)]) (jA_238_362 (d := 0)) (by rfl) (by rfl) (by decide +kernel) (by rfl) (by rfl) (by omega) (by omega) (by omega) (by omega) rfl ?_
  refine jT_fR [0, 1, 2, 3, 4, 5, 6, 7, 8, 9, 10, 11, 12, 13, 14, 15] 16 (y := 190) (pcN := 8) (dC := 1) (bc1 := 0) (bc2 := 0) (c1 := 0) (c2 := 0) (as := [(4, 0), (0, 1)]) (asC := [(4, 0), (0, 1)]) (LN := [(0, (4, 0)), (1, (0, 1)), (2, (0, x2)), (3, (0, 0))]) (stN := []) (hsC := jpA_22) (v := (0, 0)) (st2 := [(0, 0)]) (jA_190_39 (d := 0)) (by rfl) (by rfl) (by decide +kernel) (by rfl) (by rfl) (by omega) (by omega) (by omega) (by omega) rfl ?_
  refine jT_xifF (t := 25) (pcN := 11) jI_279_8 rfl (by decide +kernel) rfl rfl ?_
  refine jT_xaload_n (v := (4, 0)) (pcN := 12) jI_279_11 rfl rfl rfl ?_
  refine jT_xaload_n (v := (4, 0)) (pcN := 13) jI_279_12 rfl rfl rfl ?_
  refine jT_xiload_n (v := (0, 1)) (pcN := 14) jI_279_13 rfl rfl rfl ?_
  refine jT_xiload_n (v := (0, x2)) (pcN := 15) jI_279_14 rfl rfl rfl ?_
  refine jT_fR [0, 1, 2, 3, 4, 5, 6, 7, 8, 9, 10, 11, 12, 13, 14, 15] 16 (y := 247) (pcN := 18) (dC := 1) (bc1 := 0) (bc2 := 0) (c1 := 0) (c2 := 0) (as := [(4, 0), (0, 1), (0, x2)]) (asC := [(4, 0), (0, 1), (0, x2)]) (LN := [(0, (4, 0)), (1, (0, 1)), (2, (0, x2)), (3, (0, 0))]) (stN := [(4, 0)]) (hsC := jpA_1519) (v := (0, 0)) (st2 := [(0, 0), (4, 0)]) (jA_247_460 (d := 0) (by omega)) (by rfl) (by rfl) (by decide +kernel) (by rfl) (by rfl) (by omega) (by omega) (by omega) (by omega) rfl ?_
  refine jT_xiconst (k := 1) (pcN := 19) jI_279_18 rfl ?_
  refine jT_fB [0, 1, 2, 3, 4, 5, 6, 7, 8, 9, 10, 11, 12, 13, 14, 15] 16 (y := 191) (pcN := 22) (dC := 0) (bc1 := 0) (bc2 := 0) (c1 := 0) (c2 := 0) (as := [(4, 0), (0, 0), (0, 1)]) (asC := [(4, 0), (0, 0), (0, 1)]) (LN := [(0, (4, 0)), (1, (0, 1)), (2, (0, x2)), (3, (0, 0))]) (stN := []) (hsC := jpA_22) (hsD := jpA_20) (v := (0, 1)) (st2 := [(0, 1)]) (hs2 := jpA_1820) (jA_191_5 (d := 0)) (by rfl) (by rfl) (by decide +kernel) (by rfl) (by rfl) (by omega) (by omega) (by omega) (by omega) rfl (by decide +kernel) ?_
  refine jT_xifF (t := 27) (pcN := 25) jI_279_22 rfl (by decide +kernel) rfl rfl ?_
  refine jT_xiconst (k := 0) (pcN := 26) jI_279_25 rfl ?_
  exact jT_ret rfl (by decide) (by show 16 ≤ 16; decide) (by omega) (by omega) ⟨rfl, rfl, rfl⟩
theorem jA_149_977 {xs : List Int} {d : Nat} : jT xs (d + 4) 149 26 0 [(0, (4, 0)), (1, (0, 1)), (2, (0, 0)), (3, (0, 0))] [] jpA_3637 0 0 (fun k v hsN => k = 0 ∧ v = (0, 0) ∧ hsN = jpA_3637 ++ []) := by
  refine jT_advK 3 (pcN := 3) (LN := [(0, (4, 0)), (1, (0, 1)), (2, (0, 0)), (3, (0, 0))]) (stN := [(0, 4), (0, 1), (4, 0)]) (hsN := jpA_3637) (c1 := 0) (s1 := 0) (c2 := 0) (s2 := 0) (by decide +kernel) ?_ (by omega) (by omega)
  refine jT_fR [0] 26 (y := 115) (pcN := 6) (dC := 0) (bc1 := 0) (bc2 := 0) (c1 := 0) (c2 := 0) (as := [(4, 0), (0, 1), (0, 4)]) (asC := [(4, 0), (0, 1), (0, 4)]) (LN := [(0, (4, 0)), (1, (0, 1)), (2, (0, 0)), (3, (0, 0))]) (stN := []) (hsC := [jgh]) (v := (9, 0)) (st2 := []) (jA_115_356 (d := 0)) (by rfl) (by rfl) (by decide +kernel) (by rfl) (by rfl) (by omega) (by omega) (by omega) (by omega) rfl ?_
  refine jT_advK 3 (pcN := 11) (LN := [(0, (4, 0)), (1, (0, 1)), (2, (0, 0)), (3, (0, 0))]) (stN := [(0, 1), (4, 11)]) (hsN := jpA_3637) (c1 := 0) (s1 := 0) (c2 := 0) (s2 := 0) (by decide +kernel) ?_ (by omega) (by omega)
  refine jT_fR [11, 14, 15, 16, 17, 18, 19, 20, 21, 22] 26 (y := 56) (pcN := 14) (dC := 0) (bc1 := 0) (bc2 := 0) (c1 := 0) (c2 := 0) (as := [(4, 11), (0, 1)]) (asC := [(4, 0), (0, 1)]) (LN := [(0, (4, 0)), (1, (0, 1)), (2, (0, 0)), (3, (0, 0))]) (stN := []) (hsC := jpA_1446) (v := (4, 7)) (st2 := [(4, 20)]) (jA_56_357 (d := 0)) (by rfl) (by rfl) (by decide +kernel) (by rfl) (by rfl) (by omega) (by omega) (by omega) (by omega) rfl ?_
  refine jT_advK 4 (pcN := 20) (LN := [(4, (4, 20)), (0, (4, 0)), (1, (0, 1)), (2, (0, 0)), (3, (0, 0))]) (stN := [(4, 20), (0, 0), (4, 0)]) (hsN := jpA_3637) (c1 := 0) (s1 := 0) (c2 := 0) (s2 := 0) (by decide +kernel) ?_ (by omega) (by omega)
  refine jT_fR [20, 23, 24] 26 (y := 29) (pcN := 23) (dC := 0) (bc1 := 0) (bc2 := 0) (c1 := 0) (c2 := 0) (as := [(4, 20)]) (asC := [(4, 0)]) (LN := [(4, (4, 20)), (0, (4, 0)), (1, (0, 1)), (2, (0, 0)), (3, (0, 0))]) (stN := [(0, 0), (4, 0)]) (hsC := [(7, [(4, 1), (4, (-1)), (4, (-1))], []), (114, [], [2]), jgh]) (v := (0, 1)) (st2 := [(0, 1), (0, 0), (4, 0)]) (jA_29_416 (d := 0)) (by rfl) (by rfl) (by decide +kernel) (by rfl) (by rfl) (by omega) (by omega) (by omega) (by omega) rfl ?_
  refine jT_fR [0] 26 (y := 115) (pcN := 26) (dC := 0) (bc1 := 0) (bc2 := 0) (c1 := 0) (c2 := 0) (as := [(4, 0), (0, 0), (0, 1)]) (asC := [(4, 0), (0, 0), (0, 1)]) (LN := [(4, (4, 20)), (0, (4, 0)), (1, (0, 1)), (2, (0, 0)), (3, (0, 0))]) (stN := []) (hsC := [jgh]) (v := (9, 0)) (st2 := []) (jA_115_443 (d := 0)) (by rfl) (by rfl) (by decide +kernel) (by rfl) (by rfl) (by omega) (by omega) (by omega) (by omega) rfl ?_
  refine jT_advK 6 (pcN := 46) (LN := [(4, (4, 20)), (0, (4, 0)), (1, (0, 1)), (2, (0, 0)), (3, (0, 0))]) (stN := [(0, 0), (4, 20), (4, 1)]) (hsN := jpA_3637) (c1 := 0) (s1 := 0) (c2 := 0) (s2 := 0) (by decide +kernel) ?_ (by omega) (by omega)
  refine jT_fR [20, 23, 24] 26 (y := 30) (pcN := 49) (dC := 0) (bc1 := 0) (bc2 := 0) (c1 := 0) (c2 := 0) (as := [(4, 20), (0, 0)]) (asC := [(4, 0), (0, 0)]) (LN := [(4, (4, 20)), (0, (4, 0)), (1, (0, 1)), (2, (0, 0)), (3, (0, 0))]) (stN := [(4, 1)]) (hsC := [(7, [(4, 1), (4, (-1)), (4, (-1))], []), (114, [], [2]), jgh]) (v := (4, 2)) (st2 := [(4, 24), (4, 1)]) (jA_30_538 (d := 0)) (by rfl) (by rfl) (by decide +kernel) (by rfl) (by rfl) (by omega) (by omega) (by omega) (by omega) rfl ?_
  refine jT_advK 1 (pcN := 52) (LN := [(4, (4, 20)), (0, (4, 0)), (1, (0, 1)), (2, (0, 0)), (3, (0, 0))]) (stN := [(1, 1200), (4, 24), (4, 1)]) (hsN := jpA_3637) (c1 := 0) (s1 := 0) (c2 := 0) (s2 := 0) (by decide +kernel) ?_ (by omega) (by omega)
  refine jT_fR [1, 24, 12, 13, 25] 26 (y := 43) (pcN := 55) (dC := 3) (bc1 := 0) (bc2 := 0) (c1 := 0) (c2 := 0) (as := [(4, 1), (4, 24), (1, 1200)]) (asC := [(4, 0), (4, 1), (1, 1200)]) (LN := [(4, (4, 20)), (0, (4, 0)), (1, (0, 1)), (2, (0, 0)), (3, (0, 0))]) (stN := []) (hsC := jpA_626) (v := (1, 0)) (st2 := [(1, 0)]) (jA_43_965 (d := 0)) (by rfl) (by rfl) (by decide +kernel) (by rfl) (by rfl) (by omega) (by omega) (by omega) (by omega) rfl ?_
  refine jT_advK 1 (pcN := 56) (LN := [(4, (4, 20)), (0, (4, 0)), (1, (0, 1)), (2, (0, 0)), (3, (0, 0))]) (stN := [(0, 0)]) (hsN := jpA_3637) (c1 := 0) (s1 := 0) (c2 := 0) (s2 := 0) (by decide +kernel) ?_ (by omega) (by omega)
  exact jT_ret rfl (by decide) (by show 26 ≤ 26; decide) (by omega) (by omega) ⟨rfl, rfl, rfl⟩
theorem jA_354_978 {xs : List Int} {d : Nat} : jT xs (d + 5) 354 27 0 [(0, (4, 0)), (1, (0, 1)), (2, (0, 0)), (3, (0, 0)), (4, (4, 1))] [] jpA_3639 0 0 (fun k v hsN => k = 0 ∧ v = (0, 0) ∧ hsN = jpA_3639 ++ []) := by
  refine jT_advK 6 (pcN := 7) (LN := [(0, (4, 0)), (1, (0, 1)), (2, (0, 0)), (3, (0, 0)), (4, (4, 1))]) (stN := [(0, 0), (0, 0), (0, 1), (4, 0), (0, 0), (4, 1)]) (hsN := jpA_3639) (c1 := 0) (s1 := 0) (c2 := 0) (s2 := 0) (by decide +kernel) ?_ (by omega) (by omega)
  refine jT_fR [0, 2, 3, 4, 5, 6, 7, 8, 9, 10, 11, 12, 13, 14, 15, 16, 17, 18, 19, 20, 21, 22, 23, 24, 25, 26] 27 (y := 149) (pcN := 10) (dC := 4) (bc1 := 0) (bc2 := 0) (c1 := 0) (c2 := 0) (as := [(4, 0), (0, 1), (0, 0), (0, 0)]) (asC := [(4, 0), (0, 1), (0, 0), (0, 0)]) (LN := [(0, (4, 0)), (1, (0, 1)), (2, (0, 0)), (3, (0, 0)), (4, (4, 1))]) (stN := [(0, 0), (4, 1)]) (hsC := jpA_3637) (v := (0, 0)) (st2 := [(0, 0), (0, 0), (4, 1)]) (jA_149_977 (d := 0)) (by rfl) (by rfl) (by decide +kernel) (by rfl) (by rfl) (by omega) (by omega) (by omega) (by omega) rfl ?_
  refine jT_advK 4 (pcN := 20) (LN := [(0, (4, 0)), (1, (0, 1)), (2, (0, 0)), (3, (0, 0)), (4, (4, 1))]) (stN := [(0, 0)]) (hsN := jpA_3639) (c1 := 0) (s1 := 0) (c2 := 0) (s2 := 0) (by decide +kernel) ?_ (by omega) (by omega)
  exact jT_ret rfl (by decide) (by show 27 ≤ 27; decide) (by omega) (by omega) ⟨rfl, rfl, rfl⟩
theorem jA_279_979 {xs : List Int} {d : Nat} : jT xs (d + 8) 279 22 0 [(0, (4, 0)), (1, (0, 1)), (2, (0, 0)), (3, (0, 0))] [] jpA_1695 10 360 (fun k v hsN => k = 0 ∧ v = (0, 0) ∧ hsN = jpA_1695 ++ jpA_3654) := by
  refine jT_advK 2 (pcN := 2) (LN := [(0, (4, 0)), (1, (0, 1)), (2, (0, 0)), (3, (0, 0))]) (stN := [(0, 1), (4, 0)]) (hsN := jpA_1695) (c1 := 0) (s1 := 0) (c2 := 10) (s2 := 360) (by decide +kernel) ?_ (by omega) (by omega)
  refine jT_fR [] 22 (y := 238) (pcN := 5) (dC := 1) (bc1 := 0) (bc2 := 0) (c1 := 10) (c2 := 360) (as := [(0, 1)]) (asC := [(0, 1)]) (LN := [(0, (4, 0)), (1, (0, 1)), (2, (0, 0)), (3, (0, 0))]) (stN := [(4, 0)]) (hsC := []) (v := (0, 1)) (st2 := [(0, 1), (4, 0)]) (jA_238_362 (d := 0)) (by rfl) (by rfl) (by decide +kernel) (by rfl) (by rfl) (by omega) (by omega) (by omega) (by omega) rfl ?_
  refine jT_fR [0, 1, 2, 3, 4, 5, 6, 7, 8, 9, 10, 11, 12, 13, 14, 15] 22 (y := 190) (pcN := 8) (dC := 1) (bc1 := 0) (bc2 := 0) (c1 := 10) (c2 := 360) (as := [(4, 0), (0, 1)]) (asC := [(4, 0), (0, 1)]) (LN := [(0, (4, 0)), (1, (0, 1)), (2, (0, 0)), (3, (0, 0))]) (stN := []) (hsC := jpA_22) (v := (0, 0)) (st2 := [(0, 0)]) (jA_190_39 (d := 0)) (by rfl) (by rfl) (by decide +kernel) (by rfl) (by rfl) (by omega) (by omega) (by omega) (by omega) rfl ?_
  refine jT_advK 5 (pcN := 15) (LN := [(0, (4, 0)), (1, (0, 1)), (2, (0, 0)), (3, (0, 0))]) (stN := [(0, 0), (0, 1), (4, 0), (4, 0)]) (hsN := jpA_1695) (c1 := 0) (s1 := 0) (c2 := 10) (s2 := 360) (by decide +kernel) ?_ (by omega) (by omega)
  refine jT_fR [0, 1, 2, 3, 4, 5, 6, 7, 8, 9, 10, 11, 12, 13, 14, 15] 22 (y := 247) (pcN := 18) (dC := 1) (bc1 := 0) (bc2 := 0) (c1 := 10) (c2 := 360) (as := [(4, 0), (0, 1), (0, 0)]) (asC := [(4, 0), (0, 1), (0, 0)]) (LN := [(0, (4, 0)), (1, (0, 1)), (2, (0, 0)), (3, (0, 0))]) (stN := [(4, 0)]) (hsC := jpA_1519) (v := (0, 1)) (st2 := [(0, 1), (4, 0)]) (jA_247_464 (d := 0)) (by rfl) (by rfl) (by decide +kernel) (by rfl) (by rfl) (by omega) (by omega) (by omega) (by omega) rfl ?_
  refine jT_advK 1 (pcN := 19) (LN := [(0, (4, 0)), (1, (0, 1)), (2, (0, 0)), (3, (0, 0))]) (stN := [(0, 1), (0, 1), (4, 0)]) (hsN := jpA_1695) (c1 := 0) (s1 := 0) (c2 := 10) (s2 := 360) (by decide +kernel) ?_ (by omega) (by omega)
  refine jT_fR [0] 22 (y := 191) (pcN := 22) (dC := 0) (bc1 := 0) (bc2 := 0) (c1 := 10) (c2 := 360) (as := [(4, 0), (0, 1), (0, 1)]) (asC := [(4, 0), (0, 1), (0, 1)]) (LN := [(0, (4, 0)), (1, (0, 1)), (2, (0, 0)), (3, (0, 0))]) (stN := []) (hsC := [jgh]) (v := (0, 0)) (st2 := [(0, 0)]) (jA_191_38 (d := 0)) (by rfl) (by rfl) (by decide +kernel) (by rfl) (by rfl) (by omega) (by omega) (by omega) (by omega) rfl ?_
  refine jT_advK 8 (pcN := 47) (LN := [(0, (4, 0)), (1, (0, 1)), (2, (0, 0)), (3, (0, 0))]) (stN := [(0, 0), (0, 1), (4, 1), (4, 0)]) (hsN := jpA_1695) (c1 := 0) (s1 := 0) (c2 := 10) (s2 := 360) (by decide +kernel) ?_ (by omega) (by omega)
  refine jT_fR [] 22 (y := 242) (pcN := 50) (dC := 0) (bc1 := 0) (bc2 := 0) (c1 := 10) (c2 := 360) (as := [(0, 1), (0, 0)]) (asC := [(0, 1), (0, 0)]) (LN := [(0, (4, 0)), (1, (0, 1)), (2, (0, 0)), (3, (0, 0))]) (stN := [(4, 1), (4, 0)]) (hsC := []) (v := (0, 338)) (st2 := [(0, 338), (4, 1), (4, 0)]) (jA_242_364 (d := 0)) (by rfl) (by rfl) (by decide +kernel) (by rfl) (by rfl) (by omega) (by omega) (by omega) (by omega) rfl ?_
  refine jT_fR [0, 1, 2, 3, 4, 5, 6, 7, 8, 9, 10, 11, 12, 13, 14, 15] 22 (y := 203) (pcN := 53) (dC := 0) (bc1 := 0) (bc2 := 0) (c1 := 10) (c2 := 360) (as := [(4, 0), (4, 1), (0, 338)]) (asC := [(4, 0), (4, 1), (0, 338)]) (LN := [(0, (4, 0)), (1, (0, 1)), (2, (0, 0)), (3, (0, 0))]) (stN := []) (hsC := jpA_130) (v := (9, 0)) (st2 := []) (jA_203_367 (d := 0)) (by rfl) (by rfl) (by decide +kernel) (by rfl) (by rfl) (by omega) (by omega) (by omega) (by omega) rfl ?_
  refine jT_advK 3 (pcN := 56) (LN := [(0, (4, 0)), (1, (0, 1)), (2, (0, 0)), (3, (0, 0))]) (stN := [(0, 2), (1, 1), (4, 0)]) (hsN := jpA_1695) (c1 := 0) (s1 := 0) (c2 := 10) (s2 := 360) (by decide +kernel) ?_ (by omega) (by omega)
  refine jT_fA [0, 1, 2, 3, 4, 5, 6, 7, 8, 9, 10, 11, 12, 13, 14, 15, 16, 17, 18, 19, 20, 21] 22 (y := 265) (pcN := 59) (dC := 7) (bc1 := 10) (bc2 := 360) (c1 := 0) (c2 := 0) (as := [(4, 0), (1, 1), (0, 2)]) (asC := [(4, 0), (1, 1), (0, 2)]) (LN := [(0, (4, 0)), (1, (0, 1)), (2, (0, 0)), (3, (0, 0))]) (stN := []) (hsC := jpA_684) (ex := jpA_3654) (v := (1, 0)) (st2 := [(1, 0)]) (hs2 := jpA_3655) (jA_265_969 (d := 0)) (by rfl) (by rfl) (by decide +kernel) (by rfl) (by rfl) (by omega) (by omega) (by omega) (by omega) rfl (by decide +kernel) ?_
  refine jT_advK 1 (pcN := 60) (LN := [(0, (4, 0)), (1, (0, 1)), (2, (0, 0)), (3, (0, 0))]) (stN := [(0, 0)]) (hsN := jpA_3655) (c1 := 0) (s1 := 0) (c2 := 0) (s2 := 0) (by decide +kernel) ?_ (by omega) (by omega)
  exact jT_ret rfl (by decide) (by show 22 ≤ 32; decide) (by omega) (by omega) ⟨rfl, rfl, rfl⟩
theorem jA_149_980 {xs : List Int} {d : Nat} {x2 : Int} (h_x2 : 1 ≤ x2 ∧ x2 ≤ 2147483647) : jT xs (d + 1) 149 23 0 [(0, (4, 0)), (1, (0, 1)), (2, (0, x2)), (3, (0, 0))] [] jpA_1845 1 6 (fun k v hsN => k = 1 ∧ v = (0, 0) ∧ hsN = jpA_1845 ++ []) := by
  refine jT_xaload_n (v := (4, 0)) (pcN := 1) jI_149_0 rfl rfl rfl ?_
  refine jT_xiload_n (v := (0, 1)) (pcN := 2) jI_149_1 rfl rfl rfl ?_
  refine jT_xiconst (k := 4) (pcN := 3) jI_149_2 rfl ?_
  refine jT_fR [0] 23 (y := 115) (pcN := 6) (dC := 0) (bc1 := 0) (bc2 := 0) (c1 := 1) (c2 := 6) (as := [(4, 0), (0, 1), (0, 4)]) (asC := [(4, 0), (0, 1), (0, 4)]) (LN := [(0, (4, 0)), (1, (0, 1)), (2, (0, x2)), (3, (0, 0))]) (stN := []) (hsC := [jgh]) (v := (9, 0)) (st2 := []) (jA_115_356 (d := 0)) (by rfl) (by rfl) (by decide +kernel) (by rfl) (by rfl) (by omega) (by omega) (by omega) (by omega) rfl ?_
  refine jT_xaload_n (v := (4, 0)) (pcN := 7) jI_149_6 rfl rfl rfl ?_
  refine jT_xgetf (a := 0) (t := 1) (ci := 13) (fi := 11) (c := jzA_5) (v := (4, 11)) (pcN := 10) jI_149_7 rfl rfl rfl rfl rfl rfl rfl ?_
  refine jT_xiload_n (v := (0, 1)) (pcN := 11) jI_149_10 rfl rfl rfl ?_
  refine jT_fR [11, 12, 13, 14, 15, 16, 17, 18, 19, 20] 23 (y := 56) (pcN := 14) (dC := 0) (bc1 := 0) (bc2 := 0) (c1 := 1) (c2 := 6) (as := [(4, 11), (0, 1)]) (asC := [(4, 0), (0, 1)]) (LN := [(0, (4, 0)), (1, (0, 1)), (2, (0, x2)), (3, (0, 0))]) (stN := []) (hsC := jpA_1446) (v := (4, 7)) (st2 := [(4, 18)]) (jA_56_357 (d := 0)) (by rfl) (by rfl) (by decide +kernel) (by rfl) (by rfl) (by omega) (by omega) (by omega) (by omega) rfl ?_
  refine jT_xastore (v := (4, 18)) (LN := [(4, (4, 18)), (0, (4, 0)), (1, (0, 1)), (2, (0, x2)), (3, (0, 0))]) (pcN := 16) jI_149_14 rfl rfl rfl rfl ?_
  refine jT_xaload_n (v := (4, 0)) (pcN := 17) jI_149_16 rfl rfl rfl ?_
  refine jT_xiload_n (v := (0, x2)) (pcN := 18) jI_149_17 rfl rfl rfl ?_
  refine jT_xaload (v := (4, 18)) (pcN := 20) jI_149_18 rfl rfl rfl ?_
  refine jT_fR [18, 21, 22] 23 (y := 29) (pcN := 23) (dC := 0) (bc1 := 0) (bc2 := 0) (c1 := 1) (c2 := 6) (as := [(4, 18)]) (asC := [(4, 0)]) (LN := [(4, (4, 18)), (0, (4, 0)), (1, (0, 1)), (2, (0, x2)), (3, (0, 0))]) (stN := [(0, x2), (4, 0)]) (hsC := [(7, [(4, 1), (4, (-1)), (4, (-1))], []), (114, [], [2]), jgh]) (v := (0, 1)) (st2 := [(0, 1), (0, x2), (4, 0)]) (jA_29_416 (d := 0)) (by rfl) (by rfl) (by decide +kernel) (by rfl) (by rfl) (by omega) (by omega) (by omega) (by omega) rfl ?_
  exact jT_fX [0] 23 (y := 115) (pcN := 26) (dC := 0) (bc1 := 1) (bc2 := 6) (as := [(4, 0), (0, x2), (0, 1)]) (asC := [(4, 0), (0, x2), (0, 1)]) (LN := [(4, (4, 18)), (0, (4, 0)), (1, (0, 1)), (2, (0, x2)), (3, (0, 0))]) (stN := []) (hsC := [jgh]) (e := 0) (jA_115_453 (d := 0) (by omega)) (by rfl) (by rfl) (by decide +kernel) (by rfl) (by rfl) (by omega) (by omega) (by omega) (by omega) ⟨rfl, ⟨rfl, rfl, rfl⟩⟩
theorem jA_354_981 {xs : List Int} {d : Nat} {x2 : Int} (h_x2 : 1 ≤ x2 ∧ x2 ≤ 2147483647) : jT xs (d + 2) 354 24 0 [(0, (4, 0)), (1, (0, 1)), (2, (0, x2)), (3, (0, 0)), (4, (4, 1))] [] jpA_1846 1 6 (fun k v hsN => k = 0 ∧ v = (0, 1) ∧ hsN = jpA_1846 ++ []) := by
  refine jT_xaload (v := (4, 1)) (pcN := 2) jI_354_0 rfl rfl rfl ?_
  refine jT_xiconst (k := 0) (pcN := 3) jI_354_2 rfl ?_
  refine jT_xaload_n (v := (4, 0)) (pcN := 4) jI_354_3 rfl rfl rfl ?_
  refine jT_xiload_n (v := (0, 1)) (pcN := 5) jI_354_4 rfl rfl rfl ?_
  refine jT_xiload_n (v := (0, x2)) (pcN := 6) jI_354_5 rfl rfl rfl ?_
  refine jT_xiload_n (v := (0, 0)) (pcN := 7) jI_354_6 rfl rfl rfl ?_
  exact jT_fX [0, 2, 3, 4, 5, 6, 7, 8, 9, 10, 11, 12, 13, 14, 15, 16, 17, 18, 19, 20, 21, 22, 23] 24 (y := 149) (pcN := 10) (dC := 1) (bc1 := 1) (bc2 := 6) (as := [(4, 0), (0, 1), (0, x2), (0, 0)]) (asC := [(4, 0), (0, 1), (0, x2), (0, 0)]) (LN := [(0, (4, 0)), (1, (0, 1)), (2, (0, x2)), (3, (0, 0)), (4, (4, 1))]) (stN := [(0, 0), (4, 1)]) (hsC := jpA_1845) (e := 0) (jA_149_980 (d := 0) (by omega)) (by rfl) (by rfl) (by decide +kernel) (by rfl) (by rfl) (by omega) (by omega) (by omega) (by omega) (show _ from ⟨rfl, rfl, rfl⟩)
theorem jA_279_982 {xs : List Int} {d : Nat} {x2 : Int} (h_x2 : 1 ≤ x2 ∧ x2 ≤ 2147483647) : jT xs (d + 2) 279 16 0 [(0, (4, 0)), (1, (0, 1)), (2, (0, x2)), (3, (0, 0))] [] jpA_1519 0 0 (fun k v hsN => k = 0 ∧ v = (0, 0) ∧ hsN = jpA_1820) := by
  refine jT_xaload_n (v := (4, 0)) (pcN := 1) jI_279_0 rfl rfl rfl ?_
  refine jT_xiload_n (v := (0, 1)) (pcN := 2) jI_279_1 rfl rfl rfl ?_
  refine jT_fR [] 16 (y := 238) (pcN := 5) (dC := 1) (bc1 := 0) (bc2 := 0) (c1 := 0) (c2 := 0) (as := [(0, 1)]) (asC := [(0, 1)]) (LN := [(0, (4, 0)), (1, (0, 1)), (2, (0, x2)), (3, (0, 0))]) (stN := [(4, 0)]) (hsC := []) (v := (0, 1)) (st2 := [(0, 1), (4, 0)]) (jA_238_362 (d := 0)) (by rfl) (by rfl) (by decide +kernel) (by rfl) (by rfl) (by omega) (by omega) (by omega) (by omega) rfl ?_
  refine jT_fR [0, 1, 2, 3, 4, 5, 6, 7, 8, 9, 10, 11, 12, 13, 14, 15] 16 (y := 190) (pcN := 8) (dC := 1) (bc1 := 0) (bc2 := 0) (c1 := 0) (c2 := 0) (as := [(4, 0), (0, 1)]) (asC := [(4, 0), (0, 1)]) (LN := [(0, (4, 0)), (1, (0, 1)), (2, (0, x2)), (3, (0, 0))]) (stN := []) (hsC := jpA_22) (v := (0, 0)) (st2 := [(0, 0)]) (jA_190_39 (d := 0)) (by rfl) (by rfl) (by decide +kernel) (by rfl) (by rfl) (by omega) (by omega) (by omega) (by omega) rfl ?_
  refine jT_xifF (t := 25) (pcN := 11) jI_279_8 rfl (by decide +kernel) rfl rfl ?_
  refine jT_xaload_n (v := (4, 0)) (pcN := 12) jI_279_11 rfl rfl rfl ?_
  refine jT_xaload_n (v := (4, 0)) (pcN := 13) jI_279_12 rfl rfl rfl ?_
  refine jT_xiload_n (v := (0, 1)) (pcN := 14) jI_279_13 rfl rfl rfl ?_
  refine jT_xiload_n (v := (0, x2)) (pcN := 15) jI_279_14 rfl rfl rfl ?_
  refine jT_fR [0, 1, 2, 3, 4, 5, 6, 7, 8, 9, 10, 11, 12, 13, 14, 15] 16 (y := 247) (pcN := 18) (dC := 1) (bc1 := 0) (bc2 := 0) (c1 := 0) (c2 := 0) (as := [(4, 0), (0, 1), (0, x2)]) (asC := [(4, 0), (0, 1), (0, x2)]) (LN := [(0, (4, 0)), (1, (0, 1)), (2, (0, x2)), (3, (0, 0))]) (stN := [(4, 0)]) (hsC := jpA_1519) (v := (0, 0)) (st2 := [(0, 0), (4, 0)]) (jA_247_470 (d := 0) (by omega)) (by rfl) (by rfl) (by decide +kernel) (by rfl) (by rfl) (by omega) (by omega) (by omega) (by omega) rfl ?_
  refine jT_xiconst (k := 1) (pcN := 19) jI_279_18 rfl ?_
  refine jT_fB [0, 1, 2, 3, 4, 5, 6, 7, 8, 9, 10, 11, 12, 13, 14, 15] 16 (y := 191) (pcN := 22) (dC := 0) (bc1 := 0) (bc2 := 0) (c1 := 0) (c2 := 0) (as := [(4, 0), (0, 0), (0, 1)]) (asC := [(4, 0), (0, 0), (0, 1)]) (LN := [(0, (4, 0)), (1, (0, 1)), (2, (0, x2)), (3, (0, 0))]) (stN := []) (hsC := jpA_22) (hsD := jpA_20) (v := (0, 1)) (st2 := [(0, 1)]) (hs2 := jpA_1820) (jA_191_5 (d := 0)) (by rfl) (by rfl) (by decide +kernel) (by rfl) (by rfl) (by omega) (by omega) (by omega) (by omega) rfl (by decide +kernel) ?_
  refine jT_xifF (t := 27) (pcN := 25) jI_279_22 rfl (by decide +kernel) rfl rfl ?_
  refine jT_xiconst (k := 0) (pcN := 26) jI_279_25 rfl ?_
  exact jT_ret rfl (by decide) (by show 16 ≤ 16; decide) (by omega) (by omega) ⟨rfl, rfl, rfl⟩
theorem jA_149_983 {xs : List Int} {d : Nat} {x2 : Int} (h_x2 : (-2147483648) ≤ x2 ∧ x2 ≤ (-1)) : jT xs (d + 1) 149 23 0 [(0, (4, 0)), (1, (0, 2)), (2, (0, x2)), (3, (0, 0))] [] jpA_1858 1 6 (fun k v hsN => k = 1 ∧ v = (0, 0) ∧ hsN = jpA_1858 ++ []) := by
  refine jT_xaload_n (v := (4, 0)) (pcN := 1) jI_149_0 rfl rfl rfl ?_
  refine jT_xiload_n (v := (0, 2)) (pcN := 2) jI_149_1 rfl rfl rfl ?_
  refine jT_xiconst (k := 4) (pcN := 3) jI_149_2 rfl ?_
  refine jT_fR [0] 23 (y := 115) (pcN := 6) (dC := 0) (bc1 := 0) (bc2 := 0) (c1 := 1) (c2 := 6) (as := [(4, 0), (0, 2), (0, 4)]) (asC := [(4, 0), (0, 2), (0, 4)]) (LN := [(0, (4, 0)), (1, (0, 2)), (2, (0, x2)), (3, (0, 0))]) (stN := []) (hsC := [jgh]) (v := (9, 0)) (st2 := []) (jA_115_372 (d := 0)) (by rfl) (by rfl) (by decide +kernel) (by rfl) (by rfl) (by omega) (by omega) (by omega) (by omega) rfl ?_
  refine jT_xaload_n (v := (4, 0)) (pcN := 7) jI_149_6 rfl rfl rfl ?_
  refine jT_xgetf (a := 0) (t := 1) (ci := 13) (fi := 11) (c := jzA_5) (v := (4, 11)) (pcN := 10) jI_149_7 rfl rfl rfl rfl rfl rfl rfl ?_
  refine jT_xiload_n (v := (0, 2)) (pcN := 11) jI_149_10 rfl rfl rfl ?_
  refine jT_fR [11, 12, 13, 14, 15, 16, 17, 18, 19, 20] 23 (y := 56) (pcN := 14) (dC := 0) (bc1 := 0) (bc2 := 0) (c1 := 1) (c2 := 6) (as := [(4, 11), (0, 2)]) (asC := [(4, 0), (0, 2)]) (LN := [(0, (4, 0)), (1, (0, 2)), (2, (0, x2)), (3, (0, 0))]) (stN := []) (hsC := jpA_1446) (v := (4, 8)) (st2 := [(4, 19)]) (jA_56_373 (d := 0)) (by rfl) (by rfl) (by decide +kernel) (by rfl) (by rfl) (by omega) (by omega) (by omega) (by omega) rfl ?_
  refine jT_xastore (v := (4, 19)) (LN := [(4, (4, 19)), (0, (4, 0)), (1, (0, 2)), (2, (0, x2)), (3, (0, 0))]) (pcN := 16) jI_149_14 rfl rfl rfl rfl ?_
  refine jT_xaload_n (v := (4, 0)) (pcN := 17) jI_149_16 rfl rfl rfl ?_
  refine jT_xiload_n (v := (0, x2)) (pcN := 18) jI_149_17 rfl rfl rfl ?_
  refine jT_xaload (v := (4, 19)) (pcN := 20) jI_149_18 rfl rfl rfl ?_
  refine jT_fR [19, 21, 22] 23 (y := 29) (pcN := 23) (dC := 0) (bc1 := 0) (bc2 := 0) (c1 := 1) (c2 := 6) (as := [(4, 19)]) (asC := [(4, 0)]) (LN := [(4, (4, 19)), (0, (4, 0)), (1, (0, 2)), (2, (0, x2)), (3, (0, 0))]) (stN := [(0, x2), (4, 0)]) (hsC := [(7, [(4, 1), (4, (-1)), (4, (-1))], []), (114, [], [2]), jgh]) (v := (0, 1)) (st2 := [(0, 1), (0, x2), (4, 0)]) (jA_29_416 (d := 0)) (by rfl) (by rfl) (by decide +kernel) (by rfl) (by rfl) (by omega) (by omega) (by omega) (by omega) rfl ?_
  exact jT_fX [0] 23 (y := 115) (pcN := 26) (dC := 0) (bc1 := 1) (bc2 := 6) (as := [(4, 0), (0, x2), (0, 1)]) (asC := [(4, 0), (0, x2), (0, 1)]) (LN := [(4, (4, 19)), (0, (4, 0)), (1, (0, 2)), (2, (0, x2)), (3, (0, 0))]) (stN := []) (hsC := [jgh]) (e := 0) (jA_115_438 (d := 0) (by omega)) (by rfl) (by rfl) (by decide +kernel) (by rfl) (by rfl) (by omega) (by omega) (by omega) (by omega) ⟨rfl, ⟨rfl, rfl, rfl⟩⟩
theorem jA_354_984 {xs : List Int} {d : Nat} {x2 : Int} (h_x2 : (-2147483648) ≤ x2 ∧ x2 ≤ (-1)) : jT xs (d + 2) 354 24 0 [(0, (4, 0)), (1, (0, 2)), (2, (0, x2)), (3, (0, 0)), (4, (4, 1))] [] jpA_1859 1 6 (fun k v hsN => k = 0 ∧ v = (0, 1) ∧ hsN = jpA_1859 ++ []) := by
  refine jT_xaload (v := (4, 1)) (pcN := 2) jI_354_0 rfl rfl rfl ?_
  refine jT_xiconst (k := 0) (pcN := 3) jI_354_2 rfl ?_
  refine jT_xaload_n (v := (4, 0)) (pcN := 4) jI_354_3 rfl rfl rfl ?_
  refine jT_xiload_n (v := (0, 2)) (pcN := 5) jI_354_4 rfl rfl rfl ?_
  refine jT_xiload_n (v := (0, x2)) (pcN := 6) jI_354_5 rfl rfl rfl ?_
  refine jT_xiload_n (v := (0, 0)) (pcN := 7) jI_354_6 rfl rfl rfl ?_
  exact jT_fX [0, 2, 3, 4, 5, 6, 7, 8, 9, 10, 11, 12, 13, 14, 15, 16, 17, 18, 19, 20, 21, 22, 23] 24 (y := 149) (pcN := 10) (dC := 1) (bc1 := 1) (bc2 := 6) (as := [(4, 0), (0, 2), (0, x2), (0, 0)]) (asC := [(4, 0), (0, 2), (0, x2), (0, 0)]) (LN := [(0, (4, 0)), (1, (0, 2)), (2, (0, x2)), (3, (0, 0)), (4, (4, 1))]) (stN := [(0, 0), (4, 1)]) (hsC := jpA_1858) (e := 0) (jA_149_983 (d := 0) (by omega)) (by rfl) (by rfl) (by decide +kernel) (by rfl) (by rfl) (by omega) (by omega) (by omega) (by omega) (show _ from ⟨rfl, rfl, rfl⟩)
theorem jA_279_985 {xs : List Int} {d : Nat} {x2 : Int} (h_x2 : (-2147483648) ≤ x2 ∧ x2 ≤ (-1)) : jT xs (d + 2) 279 16 0 [(0, (4, 0)), (1, (0, 2)), (2, (0, x2)), (3, (0, 0))] [] jpA_1519 0 0 (fun k v hsN => k = 0 ∧ v = (0, 0) ∧ hsN = jpA_1820) := by
  refine jT_xaload_n (v := (4, 0)) (pcN := 1) jI_279_0 rfl rfl rfl ?_
  refine jT_xiload_n (v := (0, 2)) (pcN := 2) jI_279_1 rfl rfl rfl ?_
  refine jT_fR [] 16 (y := 238) (pcN := 5) (dC := 1) (bc1 := 0) (bc2 := 0) (c1 := 0) (c2 := 0) (as := [(0, 2)]) (asC := [(0, 2)]) (LN := [(0, (4, 0)), (1, (0, 2)), (2, (0, x2)), (3, (0, 0))]) (stN := [(4, 0)]) (hsC := []) (v := (0, 1)) (st2 := [(0, 1), (4, 0)]) (jA_238_378 (d := 0)) (by rfl) (by rfl) (by decide +kernel) (by rfl) (by rfl) (by omega) (by omega) (by omega) (by omega) rfl ?_
  refine jT_fR [0, 1, 2, 3, 4, 5, 6, 7, 8, 9, 10, 11, 12, 13, 14, 15] 16 (y := 190) (pcN := 8) (dC := 1) (bc1 := 0) (bc2 := 0) (c1 := 0) (c2 := 0) (as := [(4, 0), (0, 1)]) (asC := [(4, 0), (0, 1)]) (LN := [(0, (4, 0)), (1, (0, 2)), (2, (0, x2)), (3, (0, 0))]) (stN := []) (hsC := jpA_22) (v := (0, 0)) (st2 := [(0, 0)]) (jA_190_39 (d := 0)) (by rfl) (by rfl) (by decide +kernel) (by rfl) (by rfl) (by omega) (by omega) (by omega) (by omega) rfl ?_
  refine jT_xifF (t := 25) (pcN := 11) jI_279_8 rfl (by decide +kernel) rfl rfl ?_
  refine jT_xaload_n (v := (4, 0)) (pcN := 12) jI_279_11 rfl rfl rfl ?_
  refine jT_xaload_n (v := (4, 0)) (pcN := 13) jI_279_12 rfl rfl rfl ?_
  refine jT_xiload_n (v := (0, 2)) (pcN := 14) jI_279_13 rfl rfl rfl ?_
  refine jT_xiload_n (v := (0, x2)) (pcN := 15) jI_279_14 rfl rfl rfl ?_
  refine jT_fR [0, 1, 2, 3, 4, 5, 6, 7, 8, 9, 10, 11, 12, 13, 14, 15] 16 (y := 247) (pcN := 18) (dC := 1) (bc1 := 0) (bc2 := 0) (c1 := 0) (c2 := 0) (as := [(4, 0), (0, 2), (0, x2)]) (asC := [(4, 0), (0, 2), (0, x2)]) (LN := [(0, (4, 0)), (1, (0, 2)), (2, (0, x2)), (3, (0, 0))]) (stN := [(4, 0)]) (hsC := jpA_1519) (v := (0, 0)) (st2 := [(0, 0), (4, 0)]) (jA_247_474 (d := 0) (by omega)) (by rfl) (by rfl) (by decide +kernel) (by rfl) (by rfl) (by omega) (by omega) (by omega) (by omega) rfl ?_
  refine jT_xiconst (k := 1) (pcN := 19) jI_279_18 rfl ?_
  refine jT_fB [0, 1, 2, 3, 4, 5, 6, 7, 8, 9, 10, 11, 12, 13, 14, 15] 16 (y := 191) (pcN := 22) (dC := 0) (bc1 := 0) (bc2 := 0) (c1 := 0) (c2 := 0) (as := [(4, 0), (0, 0), (0, 1)]) (asC := [(4, 0), (0, 0), (0, 1)]) (LN := [(0, (4, 0)), (1, (0, 2)), (2, (0, x2)), (3, (0, 0))]) (stN := []) (hsC := jpA_22) (hsD := jpA_20) (v := (0, 1)) (st2 := [(0, 1)]) (hs2 := jpA_1820) (jA_191_5 (d := 0)) (by rfl) (by rfl) (by decide +kernel) (by rfl) (by rfl) (by omega) (by omega) (by omega) (by omega) rfl (by decide +kernel) ?_
  refine jT_xifF (t := 27) (pcN := 25) jI_279_22 rfl (by decide +kernel) rfl rfl ?_
  refine jT_xiconst (k := 0) (pcN := 26) jI_279_25 rfl ?_
  exact jT_ret rfl (by decide) (by show 16 ≤ 16; decide) (by omega) (by omega) ⟨rfl, rfl, rfl⟩
theorem jA_149_986 {xs : List Int} {d : Nat} : jT xs (d + 4) 149 26 0 [(0, (4, 0)), (1, (0, 2)), (2, (0, 0)), (3, (0, 0))] [] jpA_3642 0 0 (fun k v hsN => k = 0 ∧ v = (0, 0) ∧ hsN = jpA_3642 ++ []) := by
  refine jT_advK 3 (pcN := 3) (LN := [(0, (4, 0)), (1, (0, 2)), (2, (0, 0)), (3, (0, 0))]) (stN := [(0, 4), (0, 2), (4, 0)]) (hsN := jpA_3642) (c1 := 0) (s1 := 0) (c2 := 0) (s2 := 0) (by decide +kernel) ?_ (by omega) (by omega)
  refine jT_fR [0] 26 (y := 115) (pcN := 6) (dC := 0) (bc1 := 0) (bc2 := 0) (c1 := 0) (c2 := 0) (as := [(4, 0), (0, 2), (0, 4)]) (asC := [(4, 0), (0, 2), (0, 4)]) (LN := [(0, (4, 0)), (1, (0, 2)), (2, (0, 0)), (3, (0, 0))]) (stN := []) (hsC := [jgh]) (v := (9, 0)) (st2 := []) (jA_115_372 (d := 0)) (by rfl) (by rfl) (by decide +kernel) (by rfl) (by rfl) (by omega) (by omega) (by omega) (by omega) rfl ?_
  refine jT_advK 3 (pcN := 11) (LN := [(0, (4, 0)), (1, (0, 2)), (2, (0, 0)), (3, (0, 0))]) (stN := [(0, 2), (4, 11)]) (hsN := jpA_3642) (c1 := 0) (s1 := 0) (c2 := 0) (s2 := 0) (by decide +kernel) ?_ (by omega) (by omega)
  refine jT_fR [11, 14, 15, 16, 17, 18, 19, 20, 21, 22] 26 (y := 56) (pcN := 14) (dC := 0) (bc1 := 0) (bc2 := 0) (c1 := 0) (c2 := 0) (as := [(4, 11), (0, 2)]) (asC := [(4, 0), (0, 2)]) (LN := [(0, (4, 0)), (1, (0, 2)), (2, (0, 0)), (3, (0, 0))]) (stN := []) (hsC := jpA_1446) (v := (4, 8)) (st2 := [(4, 21)]) (jA_56_373 (d := 0)) (by rfl) (by rfl) (by decide +kernel) (by rfl) (by rfl) (by omega) (by omega) (by omega) (by omega) rfl ?_
  refine jT_advK 4 (pcN := 20) (LN := [(4, (4, 21)), (0, (4, 0)), (1, (0, 2)), (2, (0, 0)), (3, (0, 0))]) (stN := [(4, 21), (0, 0), (4, 0)]) (hsN := jpA_3642) (c1 := 0) (s1 := 0) (c2 := 0) (s2 := 0) (by decide +kernel) ?_ (by omega) (by omega)
  refine jT_fR [21, 23, 24] 26 (y := 29) (pcN := 23) (dC := 0) (bc1 := 0) (bc2 := 0) (c1 := 0) (c2 := 0) (as := [(4, 21)]) (asC := [(4, 0)]) (LN := [(4, (4, 21)), (0, (4, 0)), (1, (0, 2)), (2, (0, 0)), (3, (0, 0))]) (stN := [(0, 0), (4, 0)]) (hsC := [(7, [(4, 1), (4, (-1)), (4, (-1))], []), (114, [], [2]), jgh]) (v := (0, 1)) (st2 := [(0, 1), (0, 0), (4, 0)]) (jA_29_416 (d := 0)) (by rfl) (by rfl) (by decide +kernel) (by rfl) (by rfl) (by omega) (by omega) (by omega) (by omega) rfl ?_
  refine jT_fR [0] 26 (y := 115) (pcN := 26) (dC := 0) (bc1 := 0) (bc2 := 0) (c1 := 0) (c2 := 0) (as := [(4, 0), (0, 0), (0, 1)]) (asC := [(4, 0), (0, 0), (0, 1)]) (LN := [(4, (4, 21)), (0, (4, 0)), (1, (0, 2)), (2, (0, 0)), (3, (0, 0))]) (stN := []) (hsC := [jgh]) (v := (9, 0)) (st2 := []) (jA_115_443 (d := 0)) (by rfl) (by rfl) (by decide +kernel) (by rfl) (by rfl) (by omega) (by omega) (by omega) (by omega) rfl ?_
  refine jT_advK 6 (pcN := 46) (LN := [(4, (4, 21)), (0, (4, 0)), (1, (0, 2)), (2, (0, 0)), (3, (0, 0))]) (stN := [(0, 0), (4, 21), (4, 1)]) (hsN := jpA_3642) (c1 := 0) (s1 := 0) (c2 := 0) (s2 := 0) (by decide +kernel) ?_ (by omega) (by omega)
  refine jT_fR [21, 23, 24] 26 (y := 30) (pcN := 49) (dC := 0) (bc1 := 0) (bc2 := 0) (c1 := 0) (c2 := 0) (as := [(4, 21), (0, 0)]) (asC := [(4, 0), (0, 0)]) (LN := [(4, (4, 21)), (0, (4, 0)), (1, (0, 2)), (2, (0, 0)), (3, (0, 0))]) (stN := [(4, 1)]) (hsC := [(7, [(4, 1), (4, (-1)), (4, (-1))], []), (114, [], [2]), jgh]) (v := (4, 2)) (st2 := [(4, 24), (4, 1)]) (jA_30_538 (d := 0)) (by rfl) (by rfl) (by decide +kernel) (by rfl) (by rfl) (by omega) (by omega) (by omega) (by omega) rfl ?_
  refine jT_advK 1 (pcN := 52) (LN := [(4, (4, 21)), (0, (4, 0)), (1, (0, 2)), (2, (0, 0)), (3, (0, 0))]) (stN := [(1, 1200), (4, 24), (4, 1)]) (hsN := jpA_3642) (c1 := 0) (s1 := 0) (c2 := 0) (s2 := 0) (by decide +kernel) ?_ (by omega) (by omega)
  refine jT_fR [1, 24, 12, 13, 25] 26 (y := 43) (pcN := 55) (dC := 3) (bc1 := 0) (bc2 := 0) (c1 := 0) (c2 := 0) (as := [(4, 1), (4, 24), (1, 1200)]) (asC := [(4, 0), (4, 1), (1, 1200)]) (LN := [(4, (4, 21)), (0, (4, 0)), (1, (0, 2)), (2, (0, 0)), (3, (0, 0))]) (stN := []) (hsC := jpA_626) (v := (1, 0)) (st2 := [(1, 0)]) (jA_43_965 (d := 0)) (by rfl) (by rfl) (by decide +kernel) (by rfl) (by rfl) (by omega) (by omega) (by omega) (by omega) rfl ?_
  refine jT_advK 1 (pcN := 56) (LN := [(4, (4, 21)), (0, (4, 0)), (1, (0, 2)), (2, (0, 0)), (3, (0, 0))]) (stN := [(0, 0)]) (hsN := jpA_3642) (c1 := 0) (s1 := 0) (c2 := 0) (s2 := 0) (by decide +kernel) ?_ (by omega) (by omega)
  exact jT_ret rfl (by decide) (by show 26 ≤ 26; decide) (by omega) (by omega) ⟨rfl, rfl, rfl⟩
theorem jA_354_987 {xs : List Int} {d : Nat} : jT xs (d + 5) 354 27 0 [(0, (4, 0)), (1, (0, 2)), (2, (0, 0)), (3, (0, 0)), (4, (4, 1))] [] jpA_3644 0 0 (fun k v hsN => k = 0 ∧ v = (0, 0) ∧ hsN = jpA_3644 ++ []) := by
  refine jT_advK 6 (pcN := 7) (LN := [(0, (4, 0)), (1, (0, 2)), (2, (0, 0)), (3, (0, 0)), (4, (4, 1))]) (stN := [(0, 0), (0, 0), (0, 2), (4, 0), (0, 0), (4, 1)]) (hsN := jpA_3644) (c1 := 0) (s1 := 0) (c2 := 0) (s2 := 0) (by decide +kernel) ?_ (by omega) (by omega)
  refine jT_fR [0, 2, 3, 4, 5, 6, 7, 8, 9, 10, 11, 12, 13, 14, 15, 16, 17, 18, 19, 20, 21, 22, 23, 24, 25, 26] 27 (y := 149) (pcN := 10) (dC := 4) (bc1 := 0) (bc2 := 0) (c1 := 0) (c2 := 0) (as := [(4, 0), (0, 2), (0, 0), (0, 0)]) (asC := [(4, 0), (0, 2), (0, 0), (0, 0)]) (LN := [(0, (4, 0)), (1, (0, 2)), (2, (0, 0)), (3, (0, 0)), (4, (4, 1))]) (stN := [(0, 0), (4, 1)]) (hsC := jpA_3642) (v := (0, 0)) (st2 := [(0, 0), (0, 0), (4, 1)]) (jA_149_986 (d := 0)) (by rfl) (by rfl) (by decide +kernel) (by rfl) (by rfl) (by omega) (by omega) (by omega) (by omega) rfl ?_
  refine jT_advK 4 (pcN := 20) (LN := [(0, (4, 0)), (1, (0, 2)), (2, (0, 0)), (3, (0, 0)), (4, (4, 1))]) (stN := [(0, 0)]) (hsN := jpA_3644) (c1 := 0) (s1 := 0) (c2 := 0) (s2 := 0) (by decide +kernel) ?_ (by omega) (by omega)
  exact jT_ret rfl (by decide) (by show 27 ≤ 27; decide) (by omega) (by omega) ⟨rfl, rfl, rfl⟩
theorem jA_279_988 {xs : List Int} {d : Nat} : jT xs (d + 8) 279 22 0 [(0, (4, 0)), (1, (0, 2)), (2, (0, 0)), (3, (0, 0))] [] jpA_1695 10 360 (fun k v hsN => k = 0 ∧ v = (0, 0) ∧ hsN = jpA_1695 ++ jpA_3654) := by
  refine jT_advK 2 (pcN := 2) (LN := [(0, (4, 0)), (1, (0, 2)), (2, (0, 0)), (3, (0, 0))]) (stN := [(0, 2), (4, 0)]) (hsN := jpA_1695) (c1 := 0) (s1 := 0) (c2 := 10) (s2 := 360) (by decide +kernel) ?_ (by omega) (by omega)
  refine jT_fR [] 22 (y := 238) (pcN := 5) (dC := 1) (bc1 := 0) (bc2 := 0) (c1 := 10) (c2 := 360) (as := [(0, 2)]) (asC := [(0, 2)]) (LN := [(0, (4, 0)), (1, (0, 2)), (2, (0, 0)), (3, (0, 0))]) (stN := [(4, 0)]) (hsC := []) (v := (0, 1)) (st2 := [(0, 1), (4, 0)]) (jA_238_378 (d := 0)) (by rfl) (by rfl) (by decide +kernel) (by rfl) (by rfl) (by omega) (by omega) (by omega) (by omega) rfl ?_
  refine jT_fR [0, 1, 2, 3, 4, 5, 6, 7, 8, 9, 10, 11, 12, 13, 14, 15] 22 (y := 190) (pcN := 8) (dC := 1) (bc1 := 0) (bc2 := 0) (c1 := 10) (c2 := 360) (as := [(4, 0), (0, 1)]) (asC := [(4, 0), (0, 1)]) (LN := [(0, (4, 0)), (1, (0, 2)), (2, (0, 0)), (3, (0, 0))]) (stN := []) (hsC := jpA_22) (v := (0, 0)) (st2 := [(0, 0)]) (jA_190_39 (d := 0)) (by rfl) (by rfl) (by decide +kernel) (by rfl) (by rfl) (by omega) (by omega) (by omega) (by omega) rfl ?_
  refine jT_advK 5 (pcN := 15) (LN := [(0, (4, 0)), (1, (0, 2)), (2, (0, 0)), (3, (0, 0))]) (stN := [(0, 0), (0, 2), (4, 0), (4, 0)]) (hsN := jpA_1695) (c1 := 0) (s1 := 0) (c2 := 10) (s2 := 360) (by decide +kernel) ?_ (by omega) (by omega)
  refine jT_fR [0, 1, 2, 3, 4, 5, 6, 7, 8, 9, 10, 11, 12, 13, 14, 15] 22 (y := 247) (pcN := 18) (dC := 1) (bc1 := 0) (bc2 := 0) (c1 := 10) (c2 := 360) (as := [(4, 0), (0, 2), (0, 0)]) (asC := [(4, 0), (0, 2), (0, 0)]) (LN := [(0, (4, 0)), (1, (0, 2)), (2, (0, 0)), (3, (0, 0))]) (stN := [(4, 0)]) (hsC := jpA_1519) (v := (0, 1)) (st2 := [(0, 1), (4, 0)]) (jA_247_478 (d := 0)) (by rfl) (by rfl) (by decide +kernel) (by rfl) (by rfl) (by omega) (by omega) (by omega) (by omega) rfl ?_
  refine jT_advK 1 (pcN := 19) (LN := [(0, (4, 0)), (1, (0, 2)), (2, (0, 0)), (3, (0, 0))]) (stN := [(0, 1), (0, 1), (4, 0)]) (hsN := jpA_1695) (c1 := 0) (s1 := 0) (c2 := 10) (s2 := 360) (by decide +kernel) ?_ (by omega) (by omega)
  refine jT_fR [0] 22 (y := 191) (pcN := 22) (dC := 0) (bc1 := 0) (bc2 := 0) (c1 := 10) (c2 := 360) (as := [(4, 0), (0, 1), (0, 1)]) (asC := [(4, 0), (0, 1), (0, 1)]) (LN := [(0, (4, 0)), (1, (0, 2)), (2, (0, 0)), (3, (0, 0))]) (stN := []) (hsC := [jgh]) (v := (0, 0)) (st2 := [(0, 0)]) (jA_191_38 (d := 0)) (by rfl) (by rfl) (by decide +kernel) (by rfl) (by rfl) (by omega) (by omega) (by omega) (by omega) rfl ?_
  refine jT_advK 8 (pcN := 47) (LN := [(0, (4, 0)), (1, (0, 2)), (2, (0, 0)), (3, (0, 0))]) (stN := [(0, 0), (0, 2), (4, 1), (4, 0)]) (hsN := jpA_1695) (c1 := 0) (s1 := 0) (c2 := 10) (s2 := 360) (by decide +kernel) ?_ (by omega) (by omega)
  refine jT_fR [] 22 (y := 242) (pcN := 50) (dC := 0) (bc1 := 0) (bc2 := 0) (c1 := 10) (c2 := 360) (as := [(0, 2), (0, 0)]) (asC := [(0, 2), (0, 0)]) (LN := [(0, (4, 0)), (1, (0, 2)), (2, (0, 0)), (3, (0, 0))]) (stN := [(4, 1), (4, 0)]) (hsC := []) (v := (0, 619)) (st2 := [(0, 619), (4, 1), (4, 0)]) (jA_242_380 (d := 0)) (by rfl) (by rfl) (by decide +kernel) (by rfl) (by rfl) (by omega) (by omega) (by omega) (by omega) rfl ?_
  refine jT_fR [0, 1, 2, 3, 4, 5, 6, 7, 8, 9, 10, 11, 12, 13, 14, 15] 22 (y := 203) (pcN := 53) (dC := 0) (bc1 := 0) (bc2 := 0) (c1 := 10) (c2 := 360) (as := [(4, 0), (4, 1), (0, 619)]) (asC := [(4, 0), (4, 1), (0, 619)]) (LN := [(0, (4, 0)), (1, (0, 2)), (2, (0, 0)), (3, (0, 0))]) (stN := []) (hsC := jpA_130) (v := (9, 0)) (st2 := []) (jA_203_383 (d := 0)) (by rfl) (by rfl) (by decide +kernel) (by rfl) (by rfl) (by omega) (by omega) (by omega) (by omega) rfl ?_
  refine jT_advK 3 (pcN := 56) (LN := [(0, (4, 0)), (1, (0, 2)), (2, (0, 0)), (3, (0, 0))]) (stN := [(0, 2), (1, 1), (4, 0)]) (hsN := jpA_1695) (c1 := 0) (s1 := 0) (c2 := 10) (s2 := 360) (by decide +kernel) ?_ (by omega) (by omega)
  refine jT_fA [0, 1, 2, 3, 4, 5, 6, 7, 8, 9, 10, 11, 12, 13, 14, 15, 16, 17, 18, 19, 20, 21] 22 (y := 265) (pcN := 59) (dC := 7) (bc1 := 10) (bc2 := 360) (c1 := 0) (c2 := 0) (as := [(4, 0), (1, 1), (0, 2)]) (asC := [(4, 0), (1, 1), (0, 2)]) (LN := [(0, (4, 0)), (1, (0, 2)), (2, (0, 0)), (3, (0, 0))]) (stN := []) (hsC := jpA_684) (ex := jpA_3654) (v := (1, 0)) (st2 := [(1, 0)]) (hs2 := jpA_3655) (jA_265_969 (d := 0)) (by rfl) (by rfl) (by decide +kernel) (by rfl) (by rfl) (by omega) (by omega) (by omega) (by omega) rfl (by decide +kernel) ?_
  refine jT_advK 1 (pcN := 60) (LN := [(0, (4, 0)), (1, (0, 2)), (2, (0, 0)), (3, (0, 0))]) (stN := [(0, 0)]) (hsN := jpA_3655) (c1 := 0) (s1 := 0) (c2 := 0) (s2 := 0) (by decide +kernel) ?_ (by omega) (by omega)
  exact jT_ret rfl (by decide) (by show 22 ≤ 32; decide) (by omega) (by omega) ⟨rfl, rfl, rfl⟩
theorem jA_149_989 {xs : List Int} {d : Nat} {x2 : Int} (h_x2 : 1 ≤ x2 ∧ x2 ≤ 2147483647) : jT xs (d + 1) 149 23 0 [(0, (4, 0)), (1, (0, 2)), (2, (0, x2)), (3, (0, 0))] [] jpA_1858 1 6 (fun k v hsN => k = 1 ∧ v = (0, 0) ∧ hsN = jpA_1858 ++ []) := by
  refine jT_xaload_n (v := (4, 0)) (pcN := 1) jI_149_0 rfl rfl rfl ?_
  refine jT_xiload_n (v := (0, 2)) (pcN := 2) jI_149_1 rfl rfl rfl ?_
  refine jT_xiconst (k := 4) (pcN := 3) jI_149_2 rfl ?_
  refine jT_fR [0] 23 (y := 115) (pcN := 6) (dC := 0) (bc1 := 0) (bc2 := 0) (c1 := 1) (c2 := 6) (as := [(4, 0), (0, 2), (0, 4)]) (asC := [(4, 0), (0, 2), (0, 4)]) (LN := [(0, (4, 0)), (1, (0, 2)), (2, (0, x2)), (3, (0, 0))]) (stN := []) (hsC := [jgh]) (v := (9, 0)) (st2 := []) (jA_115_372 (d := 0)) (by rfl) (by rfl) (by decide +kernel) (by rfl) (by rfl) (by omega) (by omega) (by omega) (by omega) rfl ?_
  refine jT_xaload_n (v := (4, 0)) (pcN := 7) jI_149_6 rfl rfl rfl ?_
  refine jT_xgetf (a := 0) (t := 1) (ci := 13) (fi := 11) (c := jzA_5) (v := (4, 11)) (pcN := 10) jI_149_7 rfl rfl rfl rfl rfl rfl rfl ?_
  refine jT_xiload_n (v := (0, 2)) (pcN := 11) jI_149_10 rfl rfl rfl ?_
  refine jT_fR [11, 12, 13, 14, 15, 16, 17, 18, 19, 20] 23 (y := 56) (pcN := 14) (dC := 0) (bc1 := 0) (bc2 := 0) (c1 := 1) (c2 := 6) (as := [(4, 11), (0, 2)]) (asC := [(4, 0), (0, 2)]) (LN := [(0, (4, 0)), (1, (0, 2)), (2, (0, x2)), (3, (0, 0))]) (stN := []) (hsC := jpA_1446) (v := (4, 8)) (st2 := [(4, 19)]) (jA_56_373 (d := 0)) (by rfl) (by rfl) (by decide +kernel) (by rfl) (by rfl) (by omega) (by omega) (by omega) (by omega) rfl ?_
  refine jT_xastore (v := (4, 19)) (LN := [(4, (4, 19)), (0, (4, 0)), (1, (0, 2)), (2, (0, x2)), (3, (0, 0))]) (pcN := 16) jI_149_14 rfl rfl rfl rfl ?_
  refine jT_xaload_n (v := (4, 0)) (pcN := 17) jI_149_16 rfl rfl rfl ?_
  refine jT_xiload_n (v := (0, x2)) (pcN := 18) jI_149_17 rfl rfl rfl ?_
  refine jT_xaload (v := (4, 19)) (pcN := 20) jI_149_18 rfl rfl rfl ?_
  refine jT_fR [19, 21, 22] 23 (y := 29) (pcN := 23) (dC := 0) (bc1 := 0) (bc2 := 0) (c1 := 1) (c2 := 6) (as := [(4, 19)]) (asC := [(4, 0)]) (LN := [(4, (4, 19)), (0, (4, 0)), (1, (0, 2)), (2, (0, x2)), (3, (0, 0))]) (stN := [(0, x2), (4, 0)]) (hsC := [(7, [(4, 1), (4, (-1)), (4, (-1))], []), (114, [], [2]), jgh]) (v := (0, 1)) (st2 := [(0, 1), (0, x2), (4, 0)]) (jA_29_416 (d := 0)) (by rfl) (by rfl) (by decide +kernel) (by rfl) (by rfl) (by omega) (by omega) (by omega) (by omega) rfl ?_
  exact jT_fX [0] 23 (y := 115) (pcN := 26) (dC := 0) (bc1 := 1) (bc2 := 6) (as := [(4, 0), (0, x2), (0, 1)]) (asC := [(4, 0), (0, x2), (0, 1)]) (LN := [(4, (4, 19)), (0, (4, 0)), (1, (0, 2)), (2, (0, x2)), (3, (0, 0))]) (stN := []) (hsC := [jgh]) (e := 0) (jA_115_453 (d := 0) (by omega)) (by rfl) (by rfl) (by decide +kernel) (by rfl) (by rfl) (by omega) (by omega) (by omega) (by omega) ⟨rfl, ⟨rfl, rfl, rfl⟩⟩
theorem jA_354_990 {xs : List Int} {d : Nat} {x2 : Int} (h_x2 : 1 ≤ x2 ∧ x2 ≤ 2147483647) : jT xs (d + 2) 354 24 0 [(0, (4, 0)), (1, (0, 2)), (2, (0, x2)), (3, (0, 0)), (4, (4, 1))] [] jpA_1859 1 6 (fun k v hsN => k = 0 ∧ v = (0, 1) ∧ hsN = jpA_1859 ++ []) := by
  refine jT_xaload (v := (4, 1)) (pcN := 2) jI_354_0 rfl rfl rfl ?_
  refine jT_xiconst (k := 0) (pcN := 3) jI_354_2 rfl ?_
  refine jT_xaload_n (v := (4, 0)) (pcN := 4) jI_354_3 rfl rfl rfl ?_
  refine jT_xiload_n (v := (0, 2)) (pcN := 5) jI_354_4 rfl rfl rfl ?_
  refine jT_xiload_n (v := (0, x2)) (pcN := 6) jI_354_5 rfl rfl rfl ?_
  refine jT_xiload_n (v := (0, 0)) (pcN := 7) jI_354_6 rfl rfl rfl ?_
  exact jT_fX [0, 2, 3, 4, 5, 6, 7, 8, 9, 10, 11, 12, 13, 14, 15, 16, 17, 18, 19, 20, 21, 22, 23] 24 (y := 149) (pcN := 10) (dC := 1) (bc1 := 1) (bc2 := 6) (as := [(4, 0), (0, 2), (0, x2), (0, 0)]) (asC := [(4, 0), (0, 2), (0, x2), (0, 0)]) (LN := [(0, (4, 0)), (1, (0, 2)), (2, (0, x2)), (3, (0, 0)), (4, (4, 1))]) (stN := [(0, 0), (4, 1)]) (hsC := jpA_1858) (e := 0) (jA_149_989 (d := 0) (by omega)) (by rfl) (by rfl) (by decide +kernel) (by rfl) (by rfl) (by omega) (by omega) (by omega) (by omega) (show _ from ⟨rfl, rfl, rfl⟩)
theorem jA_279_991 {xs : List Int} {d : Nat} {x2 : Int} (h_x2 : 1 ≤ x2 ∧ x2 ≤ 2147483647) : jT xs (d + 2) 279 16 0 [(0, (4, 0)), (1, (0, 2)), (2, (0, x2)), (3, (0, 0))] [] jpA_1519 0 0 (fun k v hsN => k = 0 ∧ v = (0, 0) ∧ hsN = jpA_1820) := by
  refine jT_xaload_n (v := (4, 0)) (pcN := 1) jI_279_0 rfl rfl rfl ?_
  refine jT_xiload_n (v := (0, 2)) (pcN := 2) jI_279_1 rfl rfl rfl ?_
  refine jT_fR [] 16 (y := 238) (pcN := 5) (dC := 1) (bc1 := 0) (bc2 := 0) (c1 := 0) (c2 := 0) (as := [(0, 2)]) (asC := [(0, 2)]) (LN := [(0, (4, 0)), (1, (0, 2)), (2, (0, x2)), (3, (0, 0))]) (stN := [(4, 0)]) (hsC := []) (v := (0, 1)) (st2 := [(0, 1), (4, 0)]) (jA_238_378 (d := 0)) (by rfl) (by rfl) (by decide +kernel) (by rfl) (by rfl) (by omega) (by omega) (by omega) (by omega) rfl ?_
  refine jT_fR [0, 1, 2, 3, 4, 5, 6, 7, 8, 9, 10, 11, 12, 13, 14, 15] 16 (y := 190) (pcN := 8) (dC := 1) (bc1 := 0) (bc2 := 0) (c1 := 0) (c2 := 0) (as := [(4, 0), (0, 1)]) (asC := [(4, 0), (0, 1)]) (LN := [(0, (4, 0)), (1, (0, 2)), (2, (0, x2)), (3, (0, 0))]) (stN := []) (hsC := jpA_22) (v := (0, 0)) (st2 := [(0, 0)]) (jA_190_39 (d := 0)) (by rfl) (by rfl) (by decide +kernel) (by rfl) (by rfl) (by omega) (by omega) (by omega) (by omega) rfl ?_
  refine jT_xifF (t := 25) (pcN := 11) jI_279_8 rfl (by decide +kernel) rfl rfl ?_
  refine jT_xaload_n (v := (4, 0)) (pcN := 12) jI_279_11 rfl rfl rfl ?_
  refine jT_xaload_n (v := (4, 0)) (pcN := 13) jI_279_12 rfl rfl rfl ?_
  refine jT_xiload_n (v := (0, 2)) (pcN := 14) jI_279_13 rfl rfl rfl ?_
  refine jT_xiload_n (v := (0, x2)) (pcN := 15) jI_279_14 rfl rfl rfl ?_
  refine jT_fR [0, 1, 2, 3, 4, 5, 6, 7, 8, 9, 10, 11, 12, 13, 14, 15] 16 (y := 247) (pcN := 18) (dC := 1) (bc1 := 0) (bc2 := 0) (c1 := 0) (c2 := 0) (as := [(4, 0), (0, 2), (0, x2)]) (asC := [(4, 0), (0, 2), (0, x2)]) (LN := [(0, (4, 0)), (1, (0, 2)), (2, (0, x2)), (3, (0, 0))]) (stN := [(4, 0)]) (hsC := jpA_1519) (v := (0, 0)) (st2 := [(0, 0), (4, 0)]) (jA_247_484 (d := 0) (by omega)) (by rfl) (by rfl) (by decide +kernel) (by rfl) (by rfl) (by omega) (by omega) (by omega) (by omega) rfl ?_
  refine jT_xiconst (k := 1) (pcN := 19) jI_279_18 rfl ?_
  refine jT_fB [0, 1, 2, 3, 4, 5, 6, 7, 8, 9, 10, 11, 12, 13, 14, 15] 16 (y := 191) (pcN := 22) (dC := 0) (bc1 := 0) (bc2 := 0) (c1 := 0) (c2 := 0) (as := [(4, 0), (0, 0), (0, 1)]) (asC := [(4, 0), (0, 0), (0, 1)]) (LN := [(0, (4, 0)), (1, (0, 2)), (2, (0, x2)), (3, (0, 0))]) (stN := []) (hsC := jpA_22) (hsD := jpA_20) (v := (0, 1)) (st2 := [(0, 1)]) (hs2 := jpA_1820) (jA_191_5 (d := 0)) (by rfl) (by rfl) (by decide +kernel) (by rfl) (by rfl) (by omega) (by omega) (by omega) (by omega) rfl (by decide +kernel) ?_
  refine jT_xifF (t := 27) (pcN := 25) jI_279_22 rfl (by decide +kernel) rfl rfl ?_
  refine jT_xiconst (k := 0) (pcN := 26) jI_279_25 rfl ?_
  exact jT_ret rfl (by decide) (by show 16 ≤ 16; decide) (by omega) (by omega) ⟨rfl, rfl, rfl⟩
theorem jA_149_992 {xs : List Int} {d : Nat} {x2 : Int} (h_x2 : (-2147483648) ≤ x2 ∧ x2 ≤ (-1)) : jT xs (d + 1) 149 23 0 [(0, (4, 0)), (1, (0, 3)), (2, (0, x2)), (3, (0, 0))] [] jpA_1871 1 6 (fun k v hsN => k = 1 ∧ v = (0, 0) ∧ hsN = jpA_1871 ++ []) := by
  refine jT_xaload_n (v := (4, 0)) (pcN := 1) jI_149_0 rfl rfl rfl ?_
  refine jT_xiload_n (v := (0, 3)) (pcN := 2) jI_149_1 rfl rfl rfl ?_
  refine jT_xiconst (k := 4) (pcN := 3) jI_149_2 rfl ?_
  refine jT_fR [0] 23 (y := 115) (pcN := 6) (dC := 0) (bc1 := 0) (bc2 := 0) (c1 := 1) (c2 := 6) (as := [(4, 0), (0, 3), (0, 4)]) (asC := [(4, 0), (0, 3), (0, 4)]) (LN := [(0, (4, 0)), (1, (0, 3)), (2, (0, x2)), (3, (0, 0))]) (stN := []) (hsC := [jgh]) (v := (9, 0)) (st2 := []) (jA_115_387 (d := 0)) (by rfl) (by rfl) (by decide +kernel) (by rfl) (by rfl) (by omega) (by omega) (by omega) (by omega) rfl ?_
  refine jT_xaload_n (v := (4, 0)) (pcN := 7) jI_149_6 rfl rfl rfl ?_
  refine jT_xgetf (a := 0) (t := 1) (ci := 13) (fi := 11) (c := jzA_5) (v := (4, 11)) (pcN := 10) jI_149_7 rfl rfl rfl rfl rfl rfl rfl ?_
  refine jT_xiload_n (v := (0, 3)) (pcN := 11) jI_149_10 rfl rfl rfl ?_
  refine jT_fR [11, 12, 13, 14, 15, 16, 17, 18, 19, 20] 23 (y := 56) (pcN := 14) (dC := 0) (bc1 := 0) (bc2 := 0) (c1 := 1) (c2 := 6) (as := [(4, 11), (0, 3)]) (asC := [(4, 0), (0, 3)]) (LN := [(0, (4, 0)), (1, (0, 3)), (2, (0, x2)), (3, (0, 0))]) (stN := []) (hsC := jpA_1446) (v := (4, 9)) (st2 := [(4, 20)]) (jA_56_388 (d := 0)) (by rfl) (by rfl) (by decide +kernel) (by rfl) (by rfl) (by omega) (by omega) (by omega) (by omega) rfl ?_
  refine jT_xastore (v := (4, 20)) (LN := [(4, (4, 20)), (0, (4, 0)), (1, (0, 3)), (2, (0, x2)), (3, (0, 0))]) (pcN := 16) jI_149_14 rfl rfl rfl rfl ?_
  refine jT_xaload_n (v := (4, 0)) (pcN := 17) jI_149_16 rfl rfl rfl ?_
  refine jT_xiload_n (v := (0, x2)) (pcN := 18) jI_149_17 rfl rfl rfl ?_
  refine jT_xaload (v := (4, 20)) (pcN := 20) jI_149_18 rfl rfl rfl ?_
  refine jT_fR [20, 21, 22] 23 (y := 29) (pcN := 23) (dC := 0) (bc1 := 0) (bc2 := 0) (c1 := 1) (c2 := 6) (as := [(4, 20)]) (asC := [(4, 0)]) (LN := [(4, (4, 20)), (0, (4, 0)), (1, (0, 3)), (2, (0, x2)), (3, (0, 0))]) (stN := [(0, x2), (4, 0)]) (hsC := [(7, [(4, 1), (4, (-1)), (4, (-1))], []), (114, [], [2]), jgh]) (v := (0, 1)) (st2 := [(0, 1), (0, x2), (4, 0)]) (jA_29_416 (d := 0)) (by rfl) (by rfl) (by decide +kernel) (by rfl) (by rfl) (by omega) (by omega) (by omega) (by omega) rfl ?_
  exact jT_fX [0] 23 (y := 115) (pcN := 26) (dC := 0) (bc1 := 1) (bc2 := 6) (as := [(4, 0), (0, x2), (0, 1)]) (asC := [(4, 0), (0, x2), (0, 1)]) (LN := [(4, (4, 20)), (0, (4, 0)), (1, (0, 3)), (2, (0, x2)), (3, (0, 0))]) (stN := []) (hsC := [jgh]) (e := 0) (jA_115_438 (d := 0) (by omega)) (by rfl) (by rfl) (by decide +kernel) (by rfl) (by rfl) (by omega) (by omega) (by omega) (by omega) ⟨rfl, ⟨rfl, rfl, rfl⟩⟩
theorem jA_354_993 {xs : List Int} {d : Nat} {x2 : Int} (h_x2 : (-2147483648) ≤ x2 ∧ x2 ≤ (-1)) : jT xs (d + 2) 354 24 0 [(0, (4, 0)), (1, (0, 3)), (2, (0, x2)), (3, (0, 0)), (4, (4, 1))] [] jpA_1872 1 6 (fun k v hsN => k = 0 ∧ v = (0, 1) ∧ hsN = jpA_1872 ++ []) := by
  refine jT_xaload (v := (4, 1)) (pcN := 2) jI_354_0 rfl rfl rfl ?_
  refine jT_xiconst (k := 0) (pcN := 3) jI_354_2 rfl ?_
  refine jT_xaload_n (v := (4, 0)) (pcN := 4) jI_354_3 rfl rfl rfl ?_
  refine jT_xiload_n (v := (0, 3)) (pcN := 5) jI_354_4 rfl rfl rfl ?_
  refine jT_xiload_n (v := (0, x2)) (pcN := 6) jI_354_5 rfl rfl rfl ?_
  refine jT_xiload_n (v := (0, 0)) (pcN := 7) jI_354_6 rfl rfl rfl ?_
  exact jT_fX [0, 2, 3, 4, 5, 6, 7, 8, 9, 10, 11, 12, 13, 14, 15, 16, 17, 18, 19, 20, 21, 22, 23] 24 (y := 149) (pcN := 10) (dC := 1) (bc1 := 1) (bc2 := 6) (as := [(4, 0), (0, 3), (0, x2), (0, 0)]) (asC := [(4, 0), (0, 3), (0, x2), (0, 0)]) (LN := [(0, (4, 0)), (1, (0, 3)), (2, (0, x2)), (3, (0, 0)), (4, (4, 1))]) (stN := [(0, 0), (4, 1)]) (hsC := jpA_1871) (e := 0) (jA_149_992 (d := 0) (by omega)) (by rfl) (by rfl) (by decide +kernel) (by rfl) (by rfl) (by omega) (by omega) (by omega) (by omega) (show _ from ⟨rfl, rfl, rfl⟩)
theorem jA_279_994 {xs : List Int} {d : Nat} {x2 : Int} (h_x2 : (-2147483648) ≤ x2 ∧ x2 ≤ (-1)) : jT xs (d + 2) 279 16 0 [(0, (4, 0)), (1, (0, 3)), (2, (0, x2)), (3, (0, 0))] [] jpA_1519 0 0 (fun k v hsN => k = 0 ∧ v = (0, 0) ∧ hsN = jpA_1820) := by
  refine jT_xaload_n (v := (4, 0)) (pcN := 1) jI_279_0 rfl rfl rfl ?_
  refine jT_xiload_n (v := (0, 3)) (pcN := 2) jI_279_1 rfl rfl rfl ?_
  refine jT_fR [] 16 (y := 238) (pcN := 5) (dC := 1) (bc1 := 0) (bc2 := 0) (c1 := 0) (c2 := 0) (as := [(0, 3)]) (asC := [(0, 3)]) (LN := [(0, (4, 0)), (1, (0, 3)), (2, (0, x2)), (3, (0, 0))]) (stN := [(4, 0)]) (hsC := []) (v := (0, 1)) (st2 := [(0, 1), (4, 0)]) (jA_238_393 (d := 0)) (by rfl) (by rfl) (by decide +kernel) (by rfl) (by rfl) (by omega) (by omega) (by omega) (by omega) rfl ?_
  refine jT_fR [0, 1, 2, 3, 4, 5, 6, 7, 8, 9, 10, 11, 12, 13, 14, 15] 16 (y := 190) (pcN := 8) (dC := 1) (bc1 := 0) (bc2 := 0) (c1 := 0) (c2 := 0) (as := [(4, 0), (0, 1)]) (asC := [(4, 0), (0, 1)]) (LN := [(0, (4, 0)), (1, (0, 3)), (2, (0, x2)), (3, (0, 0))]) (stN := []) (hsC := jpA_22) (v := (0, 0)) (st2 := [(0, 0)]) (jA_190_39 (d := 0)) (by rfl) (by rfl) (by decide +kernel) (by rfl) (by rfl) (by omega) (by omega) (by omega) (by omega) rfl ?_
  refine jT_xifF (t := 25) (pcN := 11) jI_279_8 rfl (by decide +kernel) rfl rfl ?_
  refine jT_xaload_n (v := (4, 0)) (pcN := 12) jI_279_11 rfl rfl rfl ?_
  refine jT_xaload_n (v := (4, 0)) (pcN := 13) jI_279_12 rfl rfl rfl ?_
  refine jT_xiload_n (v := (0, 3)) (pcN := 14) jI_279_13 rfl rfl rfl ?_
  refine jT_xiload_n (v := (0, x2)) (pcN := 15) jI_279_14 rfl rfl rfl ?_
  refine jT_fR [0, 1, 2, 3, 4, 5, 6, 7, 8, 9, 10, 11, 12, 13, 14, 15] 16 (y := 247) (pcN := 18) (dC := 1) (bc1 := 0) (bc2 := 0) (c1 := 0) (c2 := 0) (as := [(4, 0), (0, 3), (0, x2)]) (asC := [(4, 0), (0, 3), (0, x2)]) (LN := [(0, (4, 0)), (1, (0, 3)), (2, (0, x2)), (3, (0, 0))]) (stN := [(4, 0)]) (hsC := jpA_1519) (v := (0, 0)) (st2 := [(0, 0), (4, 0)]) (jA_247_488 (d := 0) (by omega)) (by rfl) (by rfl) (by decide +kernel) (by rfl) (by rfl) (by omega) (by omega) (by omega) (by omega) rfl ?_
  refine jT_xiconst (k := 1) (pcN := 19) jI_279_18 rfl ?_
  refine jT_fB [0, 1, 2, 3, 4, 5, 6, 7, 8, 9, 10, 11, 12, 13, 14, 15] 16 (y := 191) (pcN := 22) (dC := 0) (bc1 := 0) (bc2 := 0) (c1 := 0) (c2 := 0) (as := [(4, 0), (0, 0), (0, 1)]) (asC := [(4, 0), (0, 0), (0, 1)]) (LN := [(0, (4, 0)), (1, (0, 3)), (2, (0, x2)), (3, (0, 0))]) (stN := []) (hsC := jpA_22) (hsD := jpA_20) (v := (0, 1)) (st2 := [(0, 1)]) (hs2 := jpA_1820) (jA_191_5 (d := 0)) (by rfl) (by rfl) (by decide +kernel) (by rfl) (by rfl) (by omega) (by omega) (by omega) (by omega) rfl (by decide +kernel) ?_
  refine jT_xifF (t := 27) (pcN := 25) jI_279_22 rfl (by decide +kernel) rfl rfl ?_
  refine jT_xiconst (k := 0) (pcN := 26) jI_279_25 rfl ?_
  exact jT_ret rfl (by decide) (by show 16 ≤ 16; decide) (by omega) (by omega) ⟨rfl, rfl, rfl⟩
theorem jA_149_995 {xs : List Int} {d : Nat} : jT xs (d + 4) 149 26 0 [(0, (4, 0)), (1, (0, 3)), (2, (0, 0)), (3, (0, 0))] [] jpA_3647 0 0 (fun k v hsN => k = 0 ∧ v = (0, 0) ∧ hsN = jpA_3647 ++ []) := by
  refine jT_advK 3 (pcN := 3) (LN := [(0, (4, 0)), (1, (0, 3)), (2, (0, 0)), (3, (0, 0))]) (stN := [(0, 4), (0, 3), (4, 0)]) (hsN := jpA_3647) (c1 := 0) (s1 := 0) (c2 := 0) (s2 := 0) (by decide +kernel) ?_ (by omega) (by omega)
  refine jT_fR [0] 26 (y := 115) (pcN := 6) (dC := 0) (bc1 := 0) (bc2 := 0) (c1 := 0) (c2 := 0) (as := [(4, 0), (0, 3), (0, 4)]) (asC := [(4, 0), (0, 3), (0, 4)]) (LN := [(0, (4, 0)), (1, (0, 3)), (2, (0, 0)), (3, (0, 0))]) (stN := []) (hsC := [jgh]) (v := (9, 0)) (st2 := []) (jA_115_387 (d := 0)) (by rfl) (by rfl) (by decide +kernel) (by rfl) (by rfl) (by omega) (by omega) (by omega) (by omega) rfl ?_
  refine jT_advK 3 (pcN := 11) (LN := [(0, (4, 0)), (1, (0, 3)), (2, (0, 0)), (3, (0, 0))]) (stN := [(0, 3), (4, 11)]) (hsN := jpA_3647) (c1 := 0) (s1 := 0) (c2 := 0) (s2 := 0) (by decide +kernel) ?_ (by omega) (by omega)
  refine jT_fR [11, 14, 15, 16, 17, 18, 19, 20, 21, 22] 26 (y := 56) (pcN := 14) (dC := 0) (bc1 := 0) (bc2 := 0) (c1 := 0) (c2 := 0) (as := [(4, 11), (0, 3)]) (asC := [(4, 0), (0, 3)]) (LN := [(0, (4, 0)), (1, (0, 3)), (2, (0, 0)), (3, (0, 0))]) (stN := []) (hsC := jpA_1446) (v := (4, 9)) (st2 := [(4, 22)]) (jA_56_388 (d := 0)) (by rfl) (by rfl) (by decide +kernel) (by rfl) (by rfl) (by omega) (by omega) (by omega) (by omega) rfl ?_
  refine jT_advK 4 (pcN := 20) (LN := [(4, (4, 22)), (0, (4, 0)), (1, (0, 3)), (2, (0, 0)), (3, (0, 0))]) (stN := [(4, 22), (0, 0), (4, 0)]) (hsN := jpA_3647) (c1 := 0) (s1 := 0) (c2 := 0) (s2 := 0) (by decide +kernel) ?_ (by omega) (by omega)
  refine jT_fR [22, 23, 24] 26 (y := 29) (pcN := 23) (dC := 0) (bc1 := 0) (bc2 := 0) (c1 := 0) (c2 := 0) (as := [(4, 22)]) (asC := [(4, 0)]) (LN := [(4, (4, 22)), (0, (4, 0)), (1, (0, 3)), (2, (0, 0)), (3, (0, 0))]) (stN := [(0, 0), (4, 0)]) (hsC := [(7, [(4, 1), (4, (-1)), (4, (-1))], []), (114, [], [2]), jgh]) (v := (0, 1)) (st2 := [(0, 1), (0, 0), (4, 0)]) (jA_29_416 (d := 0)) (by rfl) (by rfl) (by decide +kernel) (by rfl) (by rfl) (by omega) (by omega) (by omega) (by omega) rfl ?_
  refine jT_fR [0] 26 (y := 115) (pcN := 26) (dC := 0) (bc1 := 0) (bc2 := 0) (c1 := 0) (c2 := 0) (as := [(4, 0), (0, 0), (0, 1)]) (asC := [(4, 0), (0, 0), (0, 1)]) (LN := [(4, (4, 22)), (0, (4, 0)), (1, (0, 3)), (2, (0, 0)), (3, (0, 0))]) (stN := []) (hsC := [jgh]) (v := (9, 0)) (st2 := []) (jA_115_443 (d := 0)) (by rfl) (by rfl) (by decide +kernel) (by rfl) (by rfl) (by omega) (by omega) (by omega) (by omega) rfl ?_
  refine jT_advK 6 (pcN := 46) (LN := [(4, (4, 22)), (0, (4, 0)), (1, (0, 3)), (2, (0, 0)), (3, (0, 0))]) (stN := [(0, 0), (4, 22), (4, 1)]) (hsN := jpA_3647) (c1 := 0) (s1 := 0) (c2 := 0) (s2 := 0) (by decide +kernel) ?_ (by omega) (by omega)
  refine jT_fR [22, 23, 24] 26 (y := 30) (pcN := 49) (dC := 0) (bc1 := 0) (bc2 := 0) (c1 := 0) (c2 := 0) (as := [(4, 22), (0, 0)]) (asC := [(4, 0), (0, 0)]) (LN := [(4, (4, 22)), (0, (4, 0)), (1, (0, 3)), (2, (0, 0)), (3, (0, 0))]) (stN := [(4, 1)]) (hsC := [(7, [(4, 1), (4, (-1)), (4, (-1))], []), (114, [], [2]), jgh]) (v := (4, 2)) (st2 := [(4, 24), (4, 1)]) (jA_30_538 (d := 0)) (by rfl) (by rfl) (by decide +kernel) (by rfl) (by rfl) (by omega) (by omega) (by omega) (by omega) rfl ?_
  refine jT_advK 1 (pcN := 52) (LN := [(4, (4, 22)), (0, (4, 0)), (1, (0, 3)), (2, (0, 0)), (3, (0, 0))]) (stN := [(1, 1200), (4, 24), (4, 1)]) (hsN := jpA_3647) (c1 := 0) (s1 := 0) (c2 := 0) (s2 := 0) (by decide +kernel) ?_ (by omega) (by omega)
  refine jT_fR [1, 24, 12, 13, 25] 26 (y := 43) (pcN := 55) (dC := 3) (bc1 := 0) (bc2 := 0) (c1 := 0) (c2 := 0) (as := [(4, 1), (4, 24), (1, 1200)]) (asC := [(4, 0), (4, 1), (1, 1200)]) (LN := [(4, (4, 22)), (0, (4, 0)), (1, (0, 3)), (2, (0, 0)), (3, (0, 0))]) (stN := []) (hsC := jpA_626) (v := (1, 0)) (st2 := [(1, 0)]) (jA_43_965 (d := 0)) (by rfl) (by rfl) (by decide +kernel) (by rfl) (by rfl) (by omega) (by omega) (by omega) (by omega) rfl ?_
  refine jT_advK 1 (pcN := 56) (LN := [(4, (4, 22)), (0, (4, 0)), (1, (0, 3)), (2, (0, 0)), (3, (0, 0))]) (stN := [(0, 0)]) (hsN := jpA_3647) (c1 := 0) (s1 := 0) (c2 := 0) (s2 := 0) (by decide +kernel) ?_ (by omega) (by omega)
  exact jT_ret rfl (by decide) (by show 26 ≤ 26; decide) (by omega) (by omega) ⟨rfl, rfl, rfl⟩
theorem jA_354_996 {xs : List Int} {d : Nat} : jT xs (d + 5) 354 27 0 [(0, (4, 0)), (1, (0, 3)), (2, (0, 0)), (3, (0, 0)), (4, (4, 1))] [] jpA_3649 0 0 (fun k v hsN => k = 0 ∧ v = (0, 0) ∧ hsN = jpA_3649 ++ []) := by
  refine jT_advK 6 (pcN := 7) (LN := [(0, (4, 0)), (1, (0, 3)), (2, (0, 0)), (3, (0, 0)), (4, (4, 1))]) (stN := [(0, 0), (0, 0), (0, 3), (4, 0), (0, 0), (4, 1)]) (hsN := jpA_3649) (c1 := 0) (s1 := 0) (c2 := 0) (s2 := 0) (by decide +kernel) ?_ (by omega) (by omega)
  refine jT_fR [0, 2, 3, 4, 5, 6, 7, 8, 9, 10, 11, 12, 13, 14, 15, 16, 17, 18, 19, 20, 21, 22, 23, 24, 25, 26] 27 (y := 149) (pcN := 10) (dC := 4) (bc1 := 0) (bc2 := 0) (c1 := 0) (c2 := 0) (as := [(4, 0), (0, 3), (0, 0), (0, 0)]) (asC := [(4, 0), (0, 3), (0, 0), (0, 0)]) (LN := [(0, (4, 0)), (1, (0, 3)), (2, (0, 0)), (3, (0, 0)), (4, (4, 1))]) (stN := [(0, 0), (4, 1)]) (hsC := jpA_3647) (v := (0, 0)) (st2 := [(0, 0), (0, 0), (4, 1)]) (jA_149_995 (d := 0)) (by rfl) (by rfl) (by decide +kernel) (by rfl) (by rfl) (by omega) (by omega) (by omega) (by omega) rfl ?_
  refine jT_advK 4 (pcN := 20) (LN := [(0, (4, 0)), (1, (0, 3)), (2, (0, 0)), (3, (0, 0)), (4, (4, 1))]) (stN := [(0, 0)]) (hsN := jpA_3649) (c1 := 0) (s1 := 0) (c2 := 0) (s2 := 0) (by decide +kernel) ?_ (by omega) (by omega)
  exact jT_ret rfl (by decide) (by show 27 ≤ 27; decide) (by omega) (by omega) ⟨rfl, rfl, rfl⟩
theorem jA_279_997 {xs : List Int} {d : Nat} : jT xs (d + 8) 279 22 0 [(0, (4, 0)), (1, (0, 3)), (2, (0, 0)), (3, (0, 0))] [] jpA_1695 10 360 (fun k v hsN => k = 0 ∧ v = (0, 0) ∧ hsN = jpA_1695 ++ jpA_3654) := by
  refine jT_advK 2 (pcN := 2) (LN := [(0, (4, 0)), (1, (0, 3)), (2, (0, 0)), (3, (0, 0))]) (stN := [(0, 3), (4, 0)]) (hsN := jpA_1695) (c1 := 0) (s1 := 0) (c2 := 10) (s2 := 360) (by decide +kernel) ?_ (by omega) (by omega)
  refine jT_fR [] 22 (y := 238) (pcN := 5) (dC := 1) (bc1 := 0) (bc2 := 0) (c1 := 10) (c2 := 360) (as := [(0, 3)]) (asC := [(0, 3)]) (LN := [(0, (4, 0)), (1, (0, 3)), (2, (0, 0)), (3, (0, 0))]) (stN := [(4, 0)]) (hsC := []) (v := (0, 1)) (st2 := [(0, 1), (4, 0)]) (jA_238_393 (d := 0)) (by rfl) (by rfl) (by decide +kernel) (by rfl) (by rfl) (by omega) (by omega) (by omega) (by omega) rfl ?_
  refine jT_fR [0, 1, 2, 3, 4, 5, 6, 7, 8, 9, 10, 11, 12, 13, 14, 15] 22 (y := 190) (pcN := 8) (dC := 1) (bc1 := 0) (bc2 := 0) (c1 := 10) (c2 := 360) (as := [(4, 0), (0, 1)]) (asC := [(4, 0), (0, 1)]) (LN := [(0, (4, 0)), (1, (0, 3)), (2, (0, 0)), (3, (0, 0))]) (stN := []) (hsC := jpA_22) (v := (0, 0)) (st2 := [(0, 0)]) (jA_190_39 (d := 0)) (by rfl) (by rfl) (by decide +kernel) (by rfl) (by rfl) (by omega) (by omega) (by omega) (by omega) rfl ?_
  refine jT_advK 5 (pcN := 15) (LN := [(0, (4, 0)), (1, (0, 3)), (2, (0, 0)), (3, (0, 0))]) (stN := [(0, 0), (0, 3), (4, 0), (4, 0)]) (hsN := jpA_1695) (c1 := 0) (s1 := 0) (c2 := 10) (s2 := 360) (by decide +kernel) ?_ (by omega) (by omega)
  refine jT_fR [0, 1, 2, 3, 4, 5, 6, 7, 8, 9, 10, 11, 12, 13, 14, 15] 22 (y := 247) (pcN := 18) (dC := 1) (bc1 := 0) (bc2 := 0) (c1 := 10) (c2 := 360) (as := [(4, 0), (0, 3), (0, 0)]) (asC := [(4, 0), (0, 3), (0, 0)]) (LN := [(0, (4, 0)), (1, (0, 3)), (2, (0, 0)), (3, (0, 0))]) (stN := [(4, 0)]) (hsC := jpA_1519) (v := (0, 1)) (st2 := [(0, 1), (4, 0)]) (jA_247_492 (d := 0)) (by rfl) (by rfl) (by decide +kernel) (by rfl) (by rfl) (by omega) (by omega) (by omega) (by omega) rfl ?_
  refine jT_advK 1 (pcN := 19) (LN := [(0, (4, 0)), (1, (0, 3)), (2, (0, 0)), (3, (0, 0))]) (stN := [(0, 1), (0, 1), (4, 0)]) (hsN := jpA_1695) (c1 := 0) (s1 := 0) (c2 := 10) (s2 := 360) (by decide +kernel) ?_ (by omega) (by omega)
  refine jT_fR [0] 22 (y := 191) (pcN := 22) (dC := 0) (bc1 := 0) (bc2 := 0) (c1 := 10) (c2 := 360) (as := [(4, 0), (0, 1), (0, 1)]) (asC := [(4, 0), (0, 1), (0, 1)]) (LN := [(0, (4, 0)), (1, (0, 3)), (2, (0, 0)), (3, (0, 0))]) (stN := []) (hsC := [jgh]) (v := (0, 0)) (st2 := [(0, 0)]) (jA_191_38 (d := 0)) (by rfl) (by rfl) (by decide +kernel) (by rfl) (by rfl) (by omega) (by omega) (by omega) (by omega) rfl ?_
  refine jT_advK 8 (pcN := 47) (LN := [(0, (4, 0)), (1, (0, 3)), (2, (0, 0)), (3, (0, 0))]) (stN := [(0, 0), (0, 3), (4, 1), (4, 0)]) (hsN := jpA_1695) (c1 := 0) (s1 := 0) (c2 := 10) (s2 := 360) (by decide +kernel) ?_ (by omega) (by omega)
  refine jT_fR [] 22 (y := 242) (pcN := 50) (dC := 0) (bc1 := 0) (bc2 := 0) (c1 := 10) (c2 := 360) (as := [(0, 3), (0, 0)]) (asC := [(0, 3), (0, 0)]) (LN := [(0, (4, 0)), (1, (0, 3)), (2, (0, 0)), (3, (0, 0))]) (stN := [(4, 1), (4, 0)]) (hsC := []) (v := (0, 900)) (st2 := [(0, 900), (4, 1), (4, 0)]) (jA_242_395 (d := 0)) (by rfl) (by rfl) (by decide +kernel) (by rfl) (by rfl) (by omega) (by omega) (by omega) (by omega) rfl ?_
  refine jT_fR [0, 1, 2, 3, 4, 5, 6, 7, 8, 9, 10, 11, 12, 13, 14, 15] 22 (y := 203) (pcN := 53) (dC := 0) (bc1 := 0) (bc2 := 0) (c1 := 10) (c2 := 360) (as := [(4, 0), (4, 1), (0, 900)]) (asC := [(4, 0), (4, 1), (0, 900)]) (LN := [(0, (4, 0)), (1, (0, 3)), (2, (0, 0)), (3, (0, 0))]) (stN := []) (hsC := jpA_130) (v := (9, 0)) (st2 := []) (jA_203_398 (d := 0)) (by rfl) (by rfl) (by decide +kernel) (by rfl) (by rfl) (by omega) (by omega) (by omega) (by omega) rfl ?_
  refine jT_advK 3 (pcN := 56) (LN := [(0, (4, 0)), (1, (0, 3)), (2, (0, 0)), (3, (0, 0))]) (stN := [(0, 2), (1, 1), (4, 0)]) (hsN := jpA_1695) (c1 := 0) (s1 := 0) (c2 := 10) (s2 := 360) (by decide +kernel) ?_ (by omega) (by omega)
  refine jT_fA [0, 1, 2, 3, 4, 5, 6, 7, 8, 9, 10, 11, 12, 13, 14, 15, 16, 17, 18, 19, 20, 21] 22 (y := 265) (pcN := 59) (dC := 7) (bc1 := 10) (bc2 := 360) (c1 := 0) (c2 := 0) (as := [(4, 0), (1, 1), (0, 2)]) (asC := [(4, 0), (1, 1), (0, 2)]) (LN := [(0, (4, 0)), (1, (0, 3)), (2, (0, 0)), (3, (0, 0))]) (stN := []) (hsC := jpA_684) (ex := jpA_3654) (v := (1, 0)) (st2 := [(1, 0)]) (hs2 := jpA_3655) (jA_265_969 (d := 0)) (by rfl) (by rfl) (by decide +kernel) (by rfl) (by rfl) (by omega) (by omega) (by omega) (by omega) rfl (by decide +kernel) ?_
  refine jT_advK 1 (pcN := 60) (LN := [(0, (4, 0)), (1, (0, 3)), (2, (0, 0)), (3, (0, 0))]) (stN := [(0, 0)]) (hsN := jpA_3655) (c1 := 0) (s1 := 0) (c2 := 0) (s2 := 0) (by decide +kernel) ?_ (by omega) (by omega)
  exact jT_ret rfl (by decide) (by show 22 ≤ 32; decide) (by omega) (by omega) ⟨rfl, rfl, rfl⟩
theorem jA_149_998 {xs : List Int} {d : Nat} {x2 : Int} (h_x2 : 1 ≤ x2 ∧ x2 ≤ 2147483647) : jT xs (d + 1) 149 23 0 [(0, (4, 0)), (1, (0, 3)), (2, (0, x2)), (3, (0, 0))] [] jpA_1871 1 6 (fun k v hsN => k = 1 ∧ v = (0, 0) ∧ hsN = jpA_1871 ++ []) := by
  refine jT_xaload_n (v := (4, 0)) (pcN := 1) jI_149_0 rfl rfl rfl ?_
  refine jT_xiload_n (v := (0, 3)) (pcN := 2) jI_149_1 rfl rfl rfl ?_
  refine jT_xiconst (k := 4) (pcN := 3) jI_149_2 rfl ?_
  refine jT_fR [0] 23 (y := 115) (pcN := 6) (dC := 0) (bc1 := 0) (bc2 := 0) (c1 := 1) (c2 := 6) (as := [(4, 0), (0, 3), (0, 4)]) (asC := [(4, 0), (0, 3), (0, 4)]) (LN := [(0, (4, 0)), (1, (0, 3)), (2, (0, x2)), (3, (0, 0))]) (stN := []) (hsC := [jgh]) (v := (9, 0)) (st2 := []) (jA_115_387 (d := 0)) (by rfl) (by rfl) (by decide +kernel) (by rfl) (by rfl) (by omega) (by omega) (by omega) (by omega) rfl ?_
  refine jT_xaload_n (v := (4, 0)) (pcN := 7) jI_149_6 rfl rfl rfl ?_
  refine jT_xgetf (a := 0) (t := 1) (ci := 13) (fi := 11) (c := jzA_5) (v := (4, 11)) (pcN := 10) jI_149_7 rfl rfl rfl rfl rfl rfl rfl ?_
  refine jT_xiload_n (v := (0, 3)) (pcN := 11) jI_149_10 rfl rfl rfl ?_
  refine jT_fR [11, 12, 13, 14, 15, 16, 17, 18, 19, 20] 23 (y := 56) (pcN := 14) (dC := 0) (bc1 := 0) (bc2 := 0) (c1 := 1) (c2 := 6) (as := [(4, 11), (0, 3)]) (asC := [(4, 0), (0, 3)]) (LN := [(0, (4, 0)), (1, (0, 3)), (2, (0, x2)), (3, (0, 0))]) (stN := []) (hsC := jpA_1446) (v := (4, 9)) (st2 := [(4, 20)]) (jA_56_388 (d := 0)) (by rfl) (by rfl) (by decide +kernel) (by rfl) (by rfl) (by omega) (by omega) (by omega) (by omega) rfl ?_
  refine jT_xastore (v := (4, 20)) (LN := [(4, (4, 20)), (0, (4, 0)), (1, (0, 3)), (2, (0, x2)), (3, (0, 0))]) (pcN := 16) jI_149_14 rfl rfl rfl rfl ?_
  refine jT_xaload_n (v := (4, 0)) (pcN := 17) jI_149_16 rfl rfl rfl ?_
  refine jT_xiload_n (v := (0, x2)) (pcN := 18) jI_149_17 rfl rfl rfl ?_
  refine jT_xaload (v := (4, 20)) (pcN := 20) jI_149_18 rfl rfl rfl ?_
  refine jT_fR [20, 21, 22] 23 (y := 29) (pcN := 23) (dC := 0) (bc1 := 0) (bc2 := 0) (c1 := 1) (c2 := 6) (as := [(4, 20)]) (asC := [(4, 0)]) (LN := [(4, (4, 20)), (0, (4, 0)), (1, (0, 3)), (2, (0, x2)), (3, (0, 0))]) (stN := [(0, x2), (4, 0)]) (hsC := [(7, [(4, 1), (4, (-1)), (4, (-1))], []), (114, [], [2]), jgh]) (v := (0, 1)) (st2 := [(0, 1), (0, x2), (4, 0)]) (jA_29_416 (d := 0)) (by rfl) (by rfl) (by decide +kernel) (by rfl) (by rfl) (by omega) (by omega) (by omega) (by omega) rfl ?_
  exact jT_fX [0] 23 (y := 115) (pcN := 26) (dC := 0) (bc1 := 1) (bc2 := 6) (as := [(4, 0), (0, x2), (0, 1)]) (asC := [(4, 0), (0, x2), (0, 1)]) (LN := [(4, (4, 20)), (0, (4, 0)), (1, (0, 3)), (2, (0, x2)), (3, (0, 0))]) (stN := []) (hsC := [jgh]) (e := 0) (jA_115_453 (d := 0) (by omega)) (by rfl) (by rfl) (by decide +kernel) (by rfl) (by rfl) (by omega) (by omega) (by omega) (by omega) ⟨rfl, ⟨rfl, rfl, rfl⟩⟩
theorem jA_354_999 {xs : List Int} {d : Nat} {x2 : Int} (h_x2 : 1 ≤ x2 ∧ x2 ≤ 2147483647) : jT xs (d + 2) 354 24 0 [(0, (4, 0)), (1, (0, 3)), (2, (0, x2)), (3, (0, 0)), (4, (4, 1))] [] jpA_1872 1 6 (fun k v hsN => k = 0 ∧ v = (0, 1) ∧ hsN = jpA_1872 ++ []) := by
  refine jT_xaload (v := (4, 1)) (pcN := 2) jI_354_0 rfl rfl rfl ?_
  refine jT_xiconst (k := 0) (pcN := 3) jI_354_2 rfl ?_
  refine jT_xaload_n (v := (4, 0)) (pcN := 4) jI_354_3 rfl rfl rfl ?_
  refine jT_xiload_n (v := (0, 3)) (pcN := 5) jI_354_4 rfl rfl rfl ?_
  refine jT_xiload_n (v := (0, x2)) (pcN := 6) jI_354_5 rfl rfl rfl ?_
  refine jT_xiload_n (v := (0, 0)) (pcN := 7) jI_354_6 rfl rfl rfl ?_
  exact jT_fX [0, 2, 3, 4, 5, 6, 7, 8, 9, 10, 11, 12, 13, 14, 15, 16, 17, 18, 19, 20, 21, 22, 23] 24 (y := 149) (pcN := 10) (dC := 1) (bc1 := 1) (bc2 := 6) (as := [(4, 0), (0, 3), (0, x2), (0, 0)]) (asC := [(4, 0), (0, 3), (0, x2), (0, 0)]) (LN := [(0, (4, 0)), (1, (0, 3)), (2, (0, x2)), (3, (0, 0)), (4, (4, 1))]) (stN := [(0, 0), (4, 1)]) (hsC := jpA_1871) (e := 0) (jA_149_998 (d := 0) (by omega)) (by rfl) (by rfl) (by decide +kernel) (by rfl) (by rfl) (by omega) (by omega) (by omega) (by omega) (show _ from ⟨rfl, rfl, rfl⟩)
theorem jA_279_1000 {xs : List Int} {d : Nat} {x2 : Int} (h_x2 : 1 ≤ x2 ∧ x2 ≤ 2147483647) : jT xs (d + 2) 279 16 0 [(0, (4, 0)), (1, (0, 3)), (2, (0, x2)), (3, (0, 0))] [] jpA_1519 0 0 (fun k v hsN => k = 0 ∧ v = (0, 0) ∧ hsN = jpA_1820) := by
  refine jT_xaload_n (v := (4, 0)) (pcN := 1) jI_279_0 rfl rfl rfl ?_
  refine jT_xiload_n (v := (0, 3)) (pcN := 2) jI_279_1 rfl rfl rfl ?_
  refine jT_fR [] 16 (y := 238) (pcN := 5) (dC := 1) (bc1 := 0) (bc2 := 0) (c1 := 0) (c2 := 0) (as := [(0, 3)]) (asC := [(0, 3)]) (LN := [(0, (4, 0)), (1, (0, 3)), (2, (0, x2)), (3, (0, 0))]) (stN := [(4, 0)]) (hsC := []) (v := (0, 1)) (st2 := [(0, 1), (4, 0)]) (jA_238_393 (d := 0)) (by rfl) (by rfl) (by decide +kernel) (by rfl) (by rfl) (by omega) (by omega) (by omega) (by omega) rfl ?_
  refine jT_fR [0, 1, 2, 3, 4, 5, 6, 7, 8, 9, 10, 11, 12, 13, 14, 15] 16 (y := 190) (pcN := 8) (dC := 1) (bc1 := 0) (bc2 := 0) (c1 := 0) (c2 := 0) (as := [(4, 0), (0, 1)]) (asC := [(4, 0), (0, 1)]) (LN := [(0, (4, 0)), (1, (0, 3)), (2, (0, x2)), (3, (0, 0))]) (stN := []) (hsC := jpA_22) (v := (0, 0)) (st2 := [(0, 0)]) (jA_190_39 (d := 0)) (by rfl) (by rfl) (by decide +kernel) (by rfl) (by rfl) (by omega) (by omega) (by omega) (by omega) rfl ?_
  refine jT_xifF (t := 25) (pcN := 11) jI_279_8 rfl (by decide +kernel) rfl rfl ?_
  refine jT_xaload_n (v := (4, 0)) (pcN := 12) jI_279_11 rfl rfl rfl ?_
  refine jT_xaload_n (v := (4, 0)) (pcN := 13) jI_279_12 rfl rfl rfl ?_
  refine jT_xiload_n (v := (0, 3)) (pcN := 14) jI_279_13 rfl rfl rfl ?_
  refine jT_xiload_n (v := (0, x2)) (pcN := 15) jI_279_14 rfl rfl rfl ?_
  refine jT_fR [0, 1, 2, 3, 4, 5, 6, 7, 8, 9, 10, 11, 12, 13, 14, 15] 16 (y := 247) (pcN := 18) (dC := 1) (bc1 := 0) (bc2 := 0) (c1 := 0) (c2 := 0) (as := [(4, 0), (0, 3), (0, x2)]) (asC := [(4, 0), (0, 3), (0, x2)]) (LN := [(0, (4, 0)), (1, (0, 3)), (2, (0, x2)), (3, (0, 0))]) (stN := [(4, 0)]) (hsC := jpA_1519) (v := (0, 0)) (st2 := [(0, 0), (4, 0)]) (jA_247_498 (d := 0) (by omega)) (by rfl) (by rfl) (by decide +kernel) (by rfl) (by rfl) (by omega) (by omega) (by omega) (by omega) rfl ?_
  refine jT_xiconst (k := 1) (pcN := 19) jI_279_18 rfl ?_
  refine jT_fB [0, 1, 2, 3, 4, 5, 6, 7, 8, 9, 10, 11, 12, 13, 14, 15] 16 (y := 191) (pcN := 22) (dC := 0) (bc1 := 0) (bc2 := 0) (c1 := 0) (c2 := 0) (as := [(4, 0), (0, 0), (0, 1)]) (asC := [(4, 0), (0, 0), (0, 1)]) (LN := [(0, (4, 0)), (1, (0, 3)), (2, (0, x2)), (3, (0, 0))]) (stN := []) (hsC := jpA_22) (hsD := jpA_20) (v := (0, 1)) (st2 := [(0, 1)]) (hs2 := jpA_1820) (jA_191_5 (d := 0)) (by rfl) (by rfl) (by decide +kernel) (by rfl) (by rfl) (by omega) (by omega) (by omega) (by omega) rfl (by decide +kernel) ?_
  refine jT_xifF (t := 27) (pcN := 25) jI_279_22 rfl (by decide +kernel) rfl rfl ?_
  refine jT_xiconst (k := 0) (pcN := 26) jI_279_25 rfl ?_
  exact jT_ret rfl (by decide) (by show 16 ≤ 16; decide) (by omega) (by omega) ⟨rfl, rfl, rfl⟩
theorem jA_149_1001 {xs : List Int} {d : Nat} {x1 x2 : Int} (h_x1 : 4 ≤ x1 ∧ x1 ≤ 2147483647) (h_x2 : (-2147483648) ≤ x2 ∧ x2 ≤ 2147483647) : jT xs (d + 1) 149 12 0 [(0, (4, 0)), (1, (0, x1)), (2, (0, x2)), (3, (0, 0))] [] jpA_6 1 6 (fun k v hsN => k = 1 ∧ v = (0, 0) ∧ hsN = jpA_6 ++ []) := by
  refine jT_xaload_n (v := (4, 0)) (pcN := 1) jI_149_0 rfl rfl rfl ?_
  refine jT_xiload_n (v := (0, x1)) (pcN := 2) jI_149_1 rfl rfl rfl ?_
  refine jT_xiconst (k := 4) (pcN := 3) jI_149_2 rfl ?_
  exact jT_fX [0] 12 (y := 115) (pcN := 6) (dC := 0) (bc1 := 1) (bc2 := 6) (as := [(4, 0), (0, x1), (0, 4)]) (asC := [(4, 0), (0, x1), (0, 4)]) (LN := [(0, (4, 0)), (1, (0, x1)), (2, (0, x2)), (3, (0, 0))]) (stN := []) (hsC := [jgh]) (e := 0) (jA_115_405 (d := 0) (by omega)) (by rfl) (by rfl) (by decide +kernel) (by rfl) (by rfl) (by omega) (by omega) (by omega) (by omega) ⟨rfl, ⟨rfl, rfl, rfl⟩⟩
theorem jA_354_1002 {xs : List Int} {d : Nat} {x1 x2 : Int} (h_x1 : 4 ≤ x1 ∧ x1 ≤ 2147483647) (h_x2 : (-2147483648) ≤ x2 ∧ x2 ≤ 2147483647) : jT xs (d + 2) 354 13 0 [(0, (4, 0)), (1, (0, x1)), (2, (0, x2)), (3, (0, 0)), (4, (4, 1))] [] jpA_15 1 6 (fun k v hsN => k = 0 ∧ v = (0, 1) ∧ hsN = jpA_15 ++ []) := by
  refine jT_xaload (v := (4, 1)) (pcN := 2) jI_354_0 rfl rfl rfl ?_
  refine jT_xiconst (k := 0) (pcN := 3) jI_354_2 rfl ?_
  refine jT_xaload_n (v := (4, 0)) (pcN := 4) jI_354_3 rfl rfl rfl ?_
  refine jT_xiload_n (v := (0, x1)) (pcN := 5) jI_354_4 rfl rfl rfl ?_
  refine jT_xiload_n (v := (0, x2)) (pcN := 6) jI_354_5 rfl rfl rfl ?_
  refine jT_xiload_n (v := (0, 0)) (pcN := 7) jI_354_6 rfl rfl rfl ?_
  exact jT_fX [0, 2, 3, 4, 5, 6, 7, 8, 9, 10, 11, 12] 13 (y := 149) (pcN := 10) (dC := 1) (bc1 := 1) (bc2 := 6) (as := [(4, 0), (0, x1), (0, x2), (0, 0)]) (asC := [(4, 0), (0, x1), (0, x2), (0, 0)]) (LN := [(0, (4, 0)), (1, (0, x1)), (2, (0, x2)), (3, (0, 0)), (4, (4, 1))]) (stN := [(0, 0), (4, 1)]) (hsC := jpA_6) (e := 0) (jA_149_1001 (d := 0) (by omega) (by omega)) (by rfl) (by rfl) (by decide +kernel) (by rfl) (by rfl) (by omega) (by omega) (by omega) (by omega) (show _ from ⟨rfl, rfl, rfl⟩)
theorem jA_279_1003 {xs : List Int} {d : Nat} {x1 x2 : Int} (h_x1 : 4 ≤ x1 ∧ x1 ≤ 2147483647) (h_x2 : (-2147483648) ≤ x2 ∧ x2 ≤ 2147483647) : jT xs (d + 2) 279 16 0 [(0, (4, 0)), (1, (0, x1)), (2, (0, x2)), (3, (0, 0))] [] jpA_22 0 0 (fun k v hsN => k = 0 ∧ v = (0, 0) ∧ hsN = jpA_20) := by
  refine jT_xaload_n (v := (4, 0)) (pcN := 1) jI_279_0 rfl rfl rfl ?_
  refine jT_xiload_n (v := (0, x1)) (pcN := 2) jI_279_1 rfl rfl rfl ?_
  refine jT_fR [] 16 (y := 238) (pcN := 5) (dC := 1) (bc1 := 0) (bc2 := 0) (c1 := 0) (c2 := 0) (as := [(0, x1)]) (asC := [(0, x1)]) (LN := [(0, (4, 0)), (1, (0, x1)), (2, (0, x2)), (3, (0, 0))]) (stN := [(4, 0)]) (hsC := []) (v := (0, 0)) (st2 := [(0, 0), (4, 0)]) (jA_238_408 (d := 0) (by omega)) (by rfl) (by rfl) (by decide +kernel) (by rfl) (by rfl) (by omega) (by omega) (by omega) (by omega) rfl ?_
  refine jT_fB [0, 1, 2, 3, 4, 5, 6, 7, 8, 9, 10, 11, 12, 13, 14, 15] 16 (y := 190) (pcN := 8) (dC := 1) (bc1 := 0) (bc2 := 0) (c1 := 0) (c2 := 0) (as := [(4, 0), (0, 0)]) (asC := [(4, 0), (0, 0)]) (LN := [(0, (4, 0)), (1, (0, x1)), (2, (0, x2)), (3, (0, 0))]) (stN := []) (hsC := jpA_22) (hsD := jpA_20) (v := (0, 1)) (st2 := [(0, 1)]) (hs2 := jpA_20) (jA_190_6 (d := 0)) (by rfl) (by rfl) (by decide +kernel) (by rfl) (by rfl) (by omega) (by omega) (by omega) (by omega) rfl (by decide +kernel) ?_
  refine jT_xifT (pcN := 25) jI_279_8 rfl (by decide +kernel) rfl ?_
  refine jT_xiconst (k := 0) (pcN := 26) jI_279_25 rfl ?_
  exact jT_ret rfl (by decide) (by show 16 ≤ 16; decide) (by omega) (by omega) ⟨rfl, rfl, rfl⟩
theorem jI_379_2322 : jmI (jm 379) 2322 = (.aload_n 1, 1) := by rfl
theorem jI_379_2323 : jmI (jm 379) 2323 = (.aload_n 0, 1) := by rfl
theorem jI_379_2324 : jmI (jm 379) 2324 = (.iload 5, 2) := by rfl
theorem jI_379_2326 : jmI (jm 379) 2326 = (.iconst 1, 1) := by rfl
theorem jI_379_2327 : jmI (jm 379) 2327 = (.iadd, 1) := by rfl
theorem jI_379_2329 : jmI (jm 379) 2329 = (.aload_n 0, 1) := by rfl
theorem jI_379_2330 : jmI (jm 379) 2330 = (.iload 5, 2) := by rfl
theorem jI_379_2332 : jmI (jm 379) 2332 = (.iconst 2, 1) := by rfl
theorem jI_379_2333 : jmI (jm 379) 2333 = (.iadd, 1) := by rfl
theorem jI_379_2335 : jmI (jm 379) 2335 = (.aload_n 0, 1) := by rfl
theorem jI_379_2336 : jmI (jm 379) 2336 = (.iload 5, 2) := by rfl
theorem jI_379_2338 : jmI (jm 379) 2338 = (.iconst 3, 1) := by rfl
theorem jI_379_2339 : jmI (jm 379) 2339 = (.iadd, 1) := by rfl
theorem jI_379_2341 : jmI (jm 379) 2341 = (.ifCond .eq 7, 3) := by rfl
theorem jI_379_2344 : jmI (jm 379) 2344 = (.iconst 1, 1) := by rfl
theorem jI_379_2345 : jmI (jm 379) 2345 = (.goto 4, 3) := by rfl
theorem jI_379_2349 : jmI (jm 379) 2349 = (.aload_n 3, 1) := by rfl
theorem jI_379_2353 : jmI (jm 379) 2353 = (.istore 6, 2) := by rfl
theorem jI_379_2355 : jmI (jm 379) 2355 = (.aload_n 2, 1) := by rfl
theorem jI_379_2356 : jmI (jm 379) 2356 = (.aload_n 0, 1) := by rfl
theorem jI_379_2357 : jmI (jm 379) 2357 = (.iload 5, 2) := by rfl
theorem jI_379_2359 : jmI (jm 379) 2359 = (.iconst 1, 1) := by rfl
theorem jI_379_2360 : jmI (jm 379) 2360 = (.iadd, 1) := by rfl
theorem jI_379_2362 : jmI (jm 379) 2362 = (.aload_n 0, 1) := by rfl
theorem jI_379_2363 : jmI (jm 379) 2363 = (.iload 5, 2) := by rfl
theorem jI_379_2365 : jmI (jm 379) 2365 = (.iconst 2, 1) := by rfl
theorem jI_379_2366 : jmI (jm 379) 2366 = (.iadd, 1) := by rfl
theorem jI_379_2368 : jmI (jm 379) 2368 = (.aload_n 0, 1) := by rfl
theorem jI_379_2369 : jmI (jm 379) 2369 = (.iload 5, 2) := by rfl
theorem jI_379_2371 : jmI (jm 379) 2371 = (.iconst 3, 1) := by rfl
theorem jI_379_2372 : jmI (jm 379) 2372 = (.iadd, 1) := by rfl
theorem jI_379_2374 : jmI (jm 379) 2374 = (.ifCond .eq 7, 3) := by rfl
theorem jI_379_2377 : jmI (jm 379) 2377 = (.iconst 1, 1) := by rfl
theorem jI_379_2378 : jmI (jm 379) 2378 = (.goto 4, 3) := by rfl
theorem jI_379_2385 : jmI (jm 379) 2385 = (.istore 7, 2) := by rfl
theorem jI_379_2387 : jmI (jm 379) 2387 = (.aload_n 2, 1) := by rfl
theorem jI_379_2391 : jmI (jm 379) 2391 = (.iload 6, 2) := by rfl
theorem jI_379_2393 : jmI (jm 379) 2393 = (.if_icmp .eq 5, 3) := by rfl
theorem jI_379_2398 : jmI (jm 379) 2398 = (.iload 6, 2) := by rfl
theorem jI_379_2400 : jmI (jm 379) 2400 = (.ifCond .ne 15, 3) := by rfl
theorem jI_379_2415 : jmI (jm 379) 2415 = (.goto 1325, 3) := by rfl
set_option maxRecDepth 100000 in
theorem jL_30_0 {d : Nat} {x0 x1 x2 x3 x4 : Int} (h_x0 : (-2147483648) ≤ x0 ∧ x0 ≤ 2147483647) (h_x1 : (-2147483648) ≤ x1 ∧ x1 ≤ (-1)) (h_x2 : (-2147483648) ≤ x2 ∧ x2 ≤ 2147483647) (h_x3 : (-2147483648) ≤ x3 ∧ x3 ≤ (-1)) (h_x4 : (-2147483648) ≤ x4 ∧ x4 ≤ 2147483647) : jT [x0, x1, x2, x3, x4] (d + 3) 379 30 2322 [(5, (0, 0)), (4, (4, 3)), (3, (4, 2)), (2, (4, 1)), (1, (4, 0)), (0, (6, 0))] [] jpA_267 1 6 (fun k v hsN => k = 0 ∧ v = (0, 1)) := by
  refine jT_xaload_n (v := (4, 0)) (pcN := 2323) jI_379_2322 rfl rfl rfl ?_
  refine jT_xaload_n (v := (6, 0)) (pcN := 2324) jI_379_2323 rfl rfl rfl ?_
  refine jT_xiload (v := (0, 0)) (pcN := 2326) jI_379_2324 rfl rfl rfl ?_
  refine jT_xiconst (k := 1) (pcN := 2327) jI_379_2326 rfl ?_
  refine jT_xiadd (x := 0) (y := 1) (z := 1) (pcN := 2328) jI_379_2327 rfl (by decide) rfl ?_
  refine jT_adv 1 (pcN := 2329) (LN := [(5, (0, 0)), (4, (4, 3)), (3, (4, 2)), (2, (4, 1)), (1, (4, 0)), (0, (6, 0))]) (stN := [(0, x1), (4, 0)]) (hsN := jpA_267) (c1 := 0) (s1 := 0) (c2 := 1) (s2 := 6) (by exact rfl) ?_ (by omega) (by omega)
  refine jT_xaload_n (v := (6, 0)) (pcN := 2330) jI_379_2329 rfl rfl rfl ?_
  refine jT_xiload (v := (0, 0)) (pcN := 2332) jI_379_2330 rfl rfl rfl ?_
  refine jT_xiconst (k := 2) (pcN := 2333) jI_379_2332 rfl ?_
  refine jT_xiadd (x := 0) (y := 2) (z := 2) (pcN := 2334) jI_379_2333 rfl (by decide) rfl ?_
  refine jT_adv 1 (pcN := 2335) (LN := [(5, (0, 0)), (4, (4, 3)), (3, (4, 2)), (2, (4, 1)), (1, (4, 0)), (0, (6, 0))]) (stN := [(0, x2), (0, x1), (4, 0)]) (hsN := jpA_267) (c1 := 0) (s1 := 0) (c2 := 1) (s2 := 6) (by exact rfl) ?_ (by omega) (by omega)
  refine jT_xaload_n (v := (6, 0)) (pcN := 2336) jI_379_2335 rfl rfl rfl ?_
  refine jT_xiload (v := (0, 0)) (pcN := 2338) jI_379_2336 rfl rfl rfl ?_
  refine jT_xiconst (k := 3) (pcN := 2339) jI_379_2338 rfl ?_
  refine jT_xiadd (x := 0) (y := 3) (z := 3) (pcN := 2340) jI_379_2339 rfl (by decide) rfl ?_
  refine jT_adv 1 (pcN := 2341) (LN := [(5, (0, 0)), (4, (4, 3)), (3, (4, 2)), (2, (4, 1)), (1, (4, 0)), (0, (6, 0))]) (stN := [(0, x3), (0, x2), (0, x1), (4, 0)]) (hsN := jpA_267) (c1 := 0) (s1 := 0) (c2 := 1) (s2 := 6) (by exact rfl) ?_ (by omega) (by omega)
  refine jT_ifF (a := x3) (t := 2348) (by rfl) (by rfl) (by rfl) (jw_idd (by omega) (by omega)) (by simp only [jcP] <;> omega) ?_
  refine jT_xiconst (k := 1) (pcN := 2345) jI_379_2344 rfl ?_
  refine jT_xgoto (pcN := 2349) jI_379_2345 rfl ?_
  refine jT_xaload_n (v := (4, 2)) (pcN := 2350) jI_379_2349 rfl rfl rfl ?_
  refine jT_fR [0, 2, 4, 5, 6, 7, 8, 9, 10, 11, 12, 13, 14] 30 (y := 354) (pcN := 2353) (dC := 2) (bc1 := 1) (bc2 := 6) (c1 := 0) (c2 := 0) (as := [(4, 0), (0, x1), (0, x2), (0, 1), (4, 2)]) (asC := [(4, 0), (0, x1), (0, x2), (0, 1), (4, 1)]) (LN := [(5, (0, 0)), (4, (4, 3)), (3, (4, 2)), (2, (4, 1)), (1, (4, 0)), (0, (6, 0))]) (stN := []) (hsC := jpA_15) (v := (0, 1)) (st2 := [(0, 1)]) (jA_354_888 (d := 0) (by omega) (by omega)) (by rfl) (by rfl) (by decide +kernel) (by rfl) (by rfl) (by omega) (by omega) (by omega) (by omega) rfl ?_
  refine jT_xistore (v := (0, 1)) (LN := [(6, (0, 1)), (5, (0, 0)), (4, (4, 3)), (3, (4, 2)), (2, (4, 1)), (1, (4, 0)), (0, (6, 0))]) (pcN := 2355) jI_379_2353 rfl rfl rfl rfl ?_
  refine jT_xaload_n (v := (4, 1)) (pcN := 2356) jI_379_2355 rfl rfl rfl ?_
  refine jT_xaload_n (v := (6, 0)) (pcN := 2357) jI_379_2356 rfl rfl rfl ?_
  refine jT_xiload (v := (0, 0)) (pcN := 2359) jI_379_2357 rfl rfl rfl ?_
  refine jT_xiconst (k := 1) (pcN := 2360) jI_379_2359 rfl ?_
  refine jT_xiadd (x := 0) (y := 1) (z := 1) (pcN := 2361) jI_379_2360 rfl (by decide) rfl ?_
  refine jT_adv 1 (pcN := 2362) (LN := [(6, (0, 1)), (5, (0, 0)), (4, (4, 3)), (3, (4, 2)), (2, (4, 1)), (1, (4, 0)), (0, (6, 0))]) (stN := [(0, x1), (4, 1)]) (hsN := jpA_267) (c1 := 0) (s1 := 0) (c2 := 0) (s2 := 0) (by exact rfl) ?_ (by omega) (by omega)
  refine jT_xaload_n (v := (6, 0)) (pcN := 2363) jI_379_2362 rfl rfl rfl ?_
  refine jT_xiload (v := (0, 0)) (pcN := 2365) jI_379_2363 rfl rfl rfl ?_
  refine jT_xiconst (k := 2) (pcN := 2366) jI_379_2365 rfl ?_
  refine jT_xiadd (x := 0) (y := 2) (z := 2) (pcN := 2367) jI_379_2366 rfl (by decide) rfl ?_
  refine jT_adv 1 (pcN := 2368) (LN := [(6, (0, 1)), (5, (0, 0)), (4, (4, 3)), (3, (4, 2)), (2, (4, 1)), (1, (4, 0)), (0, (6, 0))]) (stN := [(0, x2), (0, x1), (4, 1)]) (hsN := jpA_267) (c1 := 0) (s1 := 0) (c2 := 0) (s2 := 0) (by exact rfl) ?_ (by omega) (by omega)
  refine jT_xaload_n (v := (6, 0)) (pcN := 2369) jI_379_2368 rfl rfl rfl ?_
  refine jT_xiload (v := (0, 0)) (pcN := 2371) jI_379_2369 rfl rfl rfl ?_
  refine jT_xiconst (k := 3) (pcN := 2372) jI_379_2371 rfl ?_
  refine jT_xiadd (x := 0) (y := 3) (z := 3) (pcN := 2373) jI_379_2372 rfl (by decide) rfl ?_
  refine jT_adv 1 (pcN := 2374) (LN := [(6, (0, 1)), (5, (0, 0)), (4, (4, 3)), (3, (4, 2)), (2, (4, 1)), (1, (4, 0)), (0, (6, 0))]) (stN := [(0, x3), (0, x2), (0, x1), (4, 1)]) (hsN := jpA_267) (c1 := 0) (s1 := 0) (c2 := 0) (s2 := 0) (by exact rfl) ?_ (by omega) (by omega)
  refine jT_ifF (a := x3) (t := 2381) (by rfl) (by rfl) (by rfl) (jw_idd (by omega) (by omega)) (by simp only [jcP] <;> omega) ?_
  refine jT_xiconst (k := 1) (pcN := 2378) jI_379_2377 rfl ?_
  refine jT_xgoto (pcN := 2382) jI_379_2378 rfl ?_
  refine jT_fB [1, 15, 16, 17, 18, 19, 20, 21, 22, 23, 24, 25, 26, 27, 28, 29] 30 (y := 279) (pcN := 2385) (dC := 2) (bc1 := 0) (bc2 := 0) (c1 := 0) (c2 := 0) (as := [(4, 1), (0, x1), (0, x2), (0, 1)]) (asC := [(4, 0), (0, x1), (0, x2), (0, 1)]) (LN := [(6, (0, 1)), (5, (0, 0)), (4, (4, 3)), (3, (4, 2)), (2, (4, 1)), (1, (4, 0)), (0, (6, 0))]) (stN := []) (hsC := jpA_22) (hsD := jpA_20) (v := (0, 0)) (st2 := [(0, 0)]) (hs2 := jpA_306) (jA_279_889 (d := 0) (by omega) (by omega)) (by rfl) (by rfl) (by decide +kernel) (by rfl) (by rfl) (by omega) (by omega) (by omega) (by omega) rfl (by decide +kernel) ?_
  refine jT_xistore (v := (0, 0)) (LN := [(7, (0, 0)), (6, (0, 1)), (5, (0, 0)), (4, (4, 3)), (3, (4, 2)), (2, (4, 1)), (1, (4, 0)), (0, (6, 0))]) (pcN := 2387) jI_379_2385 rfl rfl rfl rfl ?_
  refine jT_xaload_n (v := (4, 1)) (pcN := 2388) jI_379_2387 rfl rfl rfl ?_
  refine jT_fR [1, 15, 16, 17, 18, 19, 20, 21, 22, 23, 24, 25, 26, 27, 28, 29] 30 (y := 186) (pcN := 2391) (dC := 0) (bc1 := 0) (bc2 := 0) (c1 := 0) (c2 := 0) (as := [(4, 1)]) (asC := [(4, 0)]) (LN := [(7, (0, 0)), (6, (0, 1)), (5, (0, 0)), (4, (4, 3)), (3, (4, 2)), (2, (4, 1)), (1, (4, 0)), (0, (6, 0))]) (stN := []) (hsC := jpA_20) (v := (0, 1)) (st2 := [(0, 1)]) (jA_186_8 (d := 0)) (by rfl) (by rfl) (by decide +kernel) (by rfl) (by rfl) (by omega) (by omega) (by omega) (by omega) rfl ?_
  refine jT_xiload (v := (0, 1)) (pcN := 2393) jI_379_2391 rfl rfl rfl ?_
  refine jT_xicT (pcN := 2398) jI_379_2393 rfl (by decide +kernel) rfl ?_
  refine jT_xiload (v := (0, 1)) (pcN := 2400) jI_379_2398 rfl rfl rfl ?_
  refine jT_xifT (pcN := 2415) jI_379_2400 rfl (by decide +kernel) rfl ?_
  refine jT_xgoto (pcN := 3740) jI_379_2415 rfl ?_
  refine jT_xiinc (x := 0) (z := 5) (LN := [(5, (0, 5)), (7, (0, 0)), (6, (0, 1)), (4, (4, 3)), (3, (4, 2)), (2, (4, 1)), (1, (4, 0)), (0, (6, 0))]) (pcN := 3743) jI_379_3740 rfl rfl (by decide) rfl rfl ?_
  refine jT_xgoto (pcN := 28) jI_379_3743 rfl ?_
  refine jT_xiload (v := (0, 5)) (pcN := 30) jI_379_28 rfl rfl rfl ?_
  refine jT_xaload_n (v := (6, 0)) (pcN := 31) jI_379_30 rfl rfl rfl ?_
  refine jT_adv 1 (pcN := 32) (LN := [(5, (0, 5)), (7, (0, 0)), (6, (0, 1)), (4, (4, 3)), (3, (4, 2)), (2, (4, 1)), (1, (4, 0)), (0, (6, 0))]) (stN := [(0, 5), (0, 5)]) (hsN := jpA_306) (c1 := 0) (s1 := 0) (c2 := 0) (s2 := 0) (by exact rfl) ?_ (by omega) (by omega)
  refine jT_xiconst (k := 5) (pcN := 33) jI_379_32 rfl ?_
  refine jT_xisub (x := 5) (y := 5) (z := 0) (pcN := 34) jI_379_33 rfl (by decide) rfl ?_
  refine jT_xicT (pcN := 3746) jI_379_34 rfl (by decide +kernel) rfl ?_
  refine jT_xiconst (k := 1) (pcN := 3747) jI_379_3746 rfl ?_
  exact jT_ret rfl (by decide) (by show 30 ≤ 30; decide) (by omega) (by omega) ⟨rfl, rfl⟩
set_option maxRecDepth 100000 in
theorem jL_30_1 {d : Nat} {x0 x1 x2 x3 x4 : Int} (h_x0 : (-2147483648) ≤ x0 ∧ x0 ≤ 2147483647) (h_x1 : 0 ≤ x1 ∧ x1 ≤ 0) (h_x2 : (-2147483648) ≤ x2 ∧ x2 ≤ (-1)) (h_x3 : (-2147483648) ≤ x3 ∧ x3 ≤ (-1)) (h_x4 : (-2147483648) ≤ x4 ∧ x4 ≤ 2147483647) : jT [x0, x1, x2, x3, x4] (d + 3) 379 41 2322 [(5, (0, 0)), (4, (4, 3)), (3, (4, 2)), (2, (4, 1)), (1, (4, 0)), (0, (6, 0))] [] jpA_1911 1 6 (fun k v hsN => k = 0 ∧ v = (0, 1)) := by
  refine jT_xaload_n (v := (4, 0)) (pcN := 2323) jI_379_2322 rfl rfl rfl ?_
  refine jT_xaload_n (v := (6, 0)) (pcN := 2324) jI_379_2323 rfl rfl rfl ?_
  refine jT_xiload (v := (0, 0)) (pcN := 2326) jI_379_2324 rfl rfl rfl ?_
  refine jT_xiconst (k := 1) (pcN := 2327) jI_379_2326 rfl ?_
  refine jT_xiadd (x := 0) (y := 1) (z := 1) (pcN := 2328) jI_379_2327 rfl (by decide) rfl ?_
  refine jT_adv 1 (pcN := 2329) (LN := [(5, (0, 0)), (4, (4, 3)), (3, (4, 2)), (2, (4, 1)), (1, (4, 0)), (0, (6, 0))]) (stN := [(0, x1), (4, 0)]) (hsN := jpA_1911) (c1 := 0) (s1 := 0) (c2 := 1) (s2 := 6) (by exact rfl) ?_ (by omega) (by omega)
  refine jT_eq (LN := [(5, (0, 0)), (4, (4, 3)), (3, (4, 2)), (2, (4, 1)), (1, (4, 0)), (0, (6, 0))]) (stN := [(0, 0), (4, 0)]) (hsN := [jzA_265, jzA_266, jgh, jgh, jgh, jgh, jgh, jgh, jgh, jgh, jgh, jgh, jgh, jgh, jzA_322, (100, [], jS0), jgh, jgh, jgh, jgh, jgh, jgh, jgh, jgh, jgh, jgh, jgh, jgh, jgh, jgh, jgh, (117, [], [35, 36, 37, 38]), jgh, jgh, jgh, (7, [(4, 39), (4, (-1)), (4, (-1))], []), jgh, jgh, jgh, (114, [], [40]), jgh]) (rfl) (by simp only [List.cons.injEq, Prod.mk.injEq, and_true, true_and] <;> ((try unfold jw); (try unfold jwl); omega)) (rfl) ?_
  refine jT_xaload_n (v := (6, 0)) (pcN := 2330) jI_379_2329 rfl rfl rfl ?_
  refine jT_xiload (v := (0, 0)) (pcN := 2332) jI_379_2330 rfl rfl rfl ?_
  refine jT_xiconst (k := 2) (pcN := 2333) jI_379_2332 rfl ?_
  refine jT_xiadd (x := 0) (y := 2) (z := 2) (pcN := 2334) jI_379_2333 rfl (by decide) rfl ?_
  refine jT_adv 1 (pcN := 2335) (LN := [(5, (0, 0)), (4, (4, 3)), (3, (4, 2)), (2, (4, 1)), (1, (4, 0)), (0, (6, 0))]) (stN := [(0, x2), (0, 0), (4, 0)]) (hsN := jpA_1911) (c1 := 0) (s1 := 0) (c2 := 1) (s2 := 6) (by exact rfl) ?_ (by omega) (by omega)
  refine jT_xaload_n (v := (6, 0)) (pcN := 2336) jI_379_2335 rfl rfl rfl ?_
  refine jT_xiload (v := (0, 0)) (pcN := 2338) jI_379_2336 rfl rfl rfl ?_
  refine jT_xiconst (k := 3) (pcN := 2339) jI_379_2338 rfl ?_
  refine jT_xiadd (x := 0) (y := 3) (z := 3) (pcN := 2340) jI_379_2339 rfl (by decide) rfl ?_
  refine jT_adv 1 (pcN := 2341) (LN := [(5, (0, 0)), (4, (4, 3)), (3, (4, 2)), (2, (4, 1)), (1, (4, 0)), (0, (6, 0))]) (stN := [(0, x3), (0, x2), (0, 0), (4, 0)]) (hsN := jpA_1911) (c1 := 0) (s1 := 0) (c2 := 1) (s2 := 6) (by exact rfl) ?_ (by omega) (by omega)
  refine jT_ifF (a := x3) (t := 2348) (by rfl) (by rfl) (by rfl) (jw_idd (by omega) (by omega)) (by simp only [jcP] <;> omega) ?_
  refine jT_xiconst (k := 1) (pcN := 2345) jI_379_2344 rfl ?_
  refine jT_xgoto (pcN := 2349) jI_379_2345 rfl ?_
  refine jT_xaload_n (v := (4, 2)) (pcN := 2350) jI_379_2349 rfl rfl rfl ?_
  refine jT_fR [0, 2, 4, 5, 6, 7, 8, 9, 10, 11, 12, 13, 14, 30, 31, 32, 33, 34, 35, 36, 37, 38, 39, 40] 41 (y := 354) (pcN := 2353) (dC := 2) (bc1 := 1) (bc2 := 6) (c1 := 0) (c2 := 0) (as := [(4, 0), (0, 0), (0, x2), (0, 1), (4, 2)]) (asC := [(4, 0), (0, 0), (0, x2), (0, 1), (4, 1)]) (LN := [(5, (0, 0)), (4, (4, 3)), (3, (4, 2)), (2, (4, 1)), (1, (4, 0)), (0, (6, 0))]) (stN := []) (hsC := jpA_1806) (v := (0, 1)) (st2 := [(0, 1)]) (jA_354_891 (d := 0) (by omega)) (by rfl) (by rfl) (by decide +kernel) (by rfl) (by rfl) (by omega) (by omega) (by omega) (by omega) rfl ?_
  refine jT_xistore (v := (0, 1)) (LN := [(6, (0, 1)), (5, (0, 0)), (4, (4, 3)), (3, (4, 2)), (2, (4, 1)), (1, (4, 0)), (0, (6, 0))]) (pcN := 2355) jI_379_2353 rfl rfl rfl rfl ?_
  refine jT_xaload_n (v := (4, 1)) (pcN := 2356) jI_379_2355 rfl rfl rfl ?_
  refine jT_xaload_n (v := (6, 0)) (pcN := 2357) jI_379_2356 rfl rfl rfl ?_
  refine jT_xiload (v := (0, 0)) (pcN := 2359) jI_379_2357 rfl rfl rfl ?_
  refine jT_xiconst (k := 1) (pcN := 2360) jI_379_2359 rfl ?_
  refine jT_xiadd (x := 0) (y := 1) (z := 1) (pcN := 2361) jI_379_2360 rfl (by decide) rfl ?_
  refine jT_adv 1 (pcN := 2362) (LN := [(6, (0, 1)), (5, (0, 0)), (4, (4, 3)), (3, (4, 2)), (2, (4, 1)), (1, (4, 0)), (0, (6, 0))]) (stN := [(0, x1), (4, 1)]) (hsN := jpA_1911) (c1 := 0) (s1 := 0) (c2 := 0) (s2 := 0) (by exact rfl) ?_ (by omega) (by omega)
  refine jT_eq (LN := [(6, (0, 1)), (5, (0, 0)), (4, (4, 3)), (3, (4, 2)), (2, (4, 1)), (1, (4, 0)), (0, (6, 0))]) (stN := [(0, 0), (4, 1)]) (hsN := [jzA_265, jzA_266, jgh, jgh, jgh, jgh, jgh, jgh, jgh, jgh, jgh, jgh, jgh, jgh, jzA_322, (100, [], jS0), jgh, jgh, jgh, jgh, jgh, jgh, jgh, jgh, jgh, jgh, jgh, jgh, jgh, jgh, jgh, (117, [], [35, 36, 37, 38]), jgh, jgh, jgh, (7, [(4, 39), (4, (-1)), (4, (-1))], []), jgh, jgh, jgh, (114, [], [40]), jgh]) (rfl) (by simp only [List.cons.injEq, Prod.mk.injEq, and_true, true_and] <;> ((try unfold jw); (try unfold jwl); omega)) (rfl) ?_
  refine jT_xaload_n (v := (6, 0)) (pcN := 2363) jI_379_2362 rfl rfl rfl ?_
  refine jT_xiload (v := (0, 0)) (pcN := 2365) jI_379_2363 rfl rfl rfl ?_
  refine jT_xiconst (k := 2) (pcN := 2366) jI_379_2365 rfl ?_
  refine jT_xiadd (x := 0) (y := 2) (z := 2) (pcN := 2367) jI_379_2366 rfl (by decide) rfl ?_
  refine jT_adv 1 (pcN := 2368) (LN := [(6, (0, 1)), (5, (0, 0)), (4, (4, 3)), (3, (4, 2)), (2, (4, 1)), (1, (4, 0)), (0, (6, 0))]) (stN := [(0, x2), (0, 0), (4, 1)]) (hsN := jpA_1911) (c1 := 0) (s1 := 0) (c2 := 0) (s2 := 0) (by exact rfl) ?_ (by omega) (by omega)
  refine jT_xaload_n (v := (6, 0)) (pcN := 2369) jI_379_2368 rfl rfl rfl ?_
  refine jT_xiload (v := (0, 0)) (pcN := 2371) jI_379_2369 rfl rfl rfl ?_
  refine jT_xiconst (k := 3) (pcN := 2372) jI_379_2371 rfl ?_
  refine jT_xiadd (x := 0) (y := 3) (z := 3) (pcN := 2373) jI_379_2372 rfl (by decide) rfl ?_
  refine jT_adv 1 (pcN := 2374) (LN := [(6, (0, 1)), (5, (0, 0)), (4, (4, 3)), (3, (4, 2)), (2, (4, 1)), (1, (4, 0)), (0, (6, 0))]) (stN := [(0, x3), (0, x2), (0, 0), (4, 1)]) (hsN := jpA_1911) (c1 := 0) (s1 := 0) (c2 := 0) (s2 := 0) (by exact rfl) ?_ (by omega) (by omega)
  refine jT_ifF (a := x3) (t := 2381) (by rfl) (by rfl) (by rfl) (jw_idd (by omega) (by omega)) (by simp only [jcP] <;> omega) ?_
  refine jT_xiconst (k := 1) (pcN := 2378) jI_379_2377 rfl ?_
  refine jT_xgoto (pcN := 2382) jI_379_2378 rfl ?_
  refine jT_fB [1, 15, 16, 17, 18, 19, 20, 21, 22, 23, 24, 25, 26, 27, 28, 29] 41 (y := 279) (pcN := 2385) (dC := 2) (bc1 := 0) (bc2 := 0) (c1 := 0) (c2 := 0) (as := [(4, 1), (0, 0), (0, x2), (0, 1)]) (asC := [(4, 0), (0, 0), (0, x2), (0, 1)]) (LN := [(6, (0, 1)), (5, (0, 0)), (4, (4, 3)), (3, (4, 2)), (2, (4, 1)), (1, (4, 0)), (0, (6, 0))]) (stN := []) (hsC := jpA_1519) (hsD := jpA_1820) (v := (0, 0)) (st2 := [(0, 0)]) (hs2 := jpA_1912) (jA_279_892 (d := 0) (by omega)) (by rfl) (by rfl) (by decide +kernel) (by rfl) (by rfl) (by omega) (by omega) (by omega) (by omega) rfl (by decide +kernel) ?_
  refine jT_xistore (v := (0, 0)) (LN := [(7, (0, 0)), (6, (0, 1)), (5, (0, 0)), (4, (4, 3)), (3, (4, 2)), (2, (4, 1)), (1, (4, 0)), (0, (6, 0))]) (pcN := 2387) jI_379_2385 rfl rfl rfl rfl ?_
  refine jT_xaload_n (v := (4, 1)) (pcN := 2388) jI_379_2387 rfl rfl rfl ?_
  refine jT_fR [1, 15, 16, 17, 18, 19, 20, 21, 22, 23, 24, 25, 26, 27, 28, 29] 41 (y := 186) (pcN := 2391) (dC := 0) (bc1 := 0) (bc2 := 0) (c1 := 0) (c2 := 0) (as := [(4, 1)]) (asC := [(4, 0)]) (LN := [(7, (0, 0)), (6, (0, 1)), (5, (0, 0)), (4, (4, 3)), (3, (4, 2)), (2, (4, 1)), (1, (4, 0)), (0, (6, 0))]) (stN := []) (hsC := jpA_20) (v := (0, 1)) (st2 := [(0, 1)]) (jA_186_8 (d := 0)) (by rfl) (by rfl) (by decide +kernel) (by rfl) (by rfl) (by omega) (by omega) (by omega) (by omega) rfl ?_
  refine jT_xiload (v := (0, 1)) (pcN := 2393) jI_379_2391 rfl rfl rfl ?_
  refine jT_xicT (pcN := 2398) jI_379_2393 rfl (by decide +kernel) rfl ?_
  refine jT_xiload (v := (0, 1)) (pcN := 2400) jI_379_2398 rfl rfl rfl ?_
  refine jT_xifT (pcN := 2415) jI_379_2400 rfl (by decide +kernel) rfl ?_
  refine jT_xgoto (pcN := 3740) jI_379_2415 rfl ?_
  refine jT_xiinc (x := 0) (z := 5) (LN := [(5, (0, 5)), (7, (0, 0)), (6, (0, 1)), (4, (4, 3)), (3, (4, 2)), (2, (4, 1)), (1, (4, 0)), (0, (6, 0))]) (pcN := 3743) jI_379_3740 rfl rfl (by decide) rfl rfl ?_
  refine jT_xgoto (pcN := 28) jI_379_3743 rfl ?_
  refine jT_xiload (v := (0, 5)) (pcN := 30) jI_379_28 rfl rfl rfl ?_
  refine jT_xaload_n (v := (6, 0)) (pcN := 31) jI_379_30 rfl rfl rfl ?_
  refine jT_adv 1 (pcN := 32) (LN := [(5, (0, 5)), (7, (0, 0)), (6, (0, 1)), (4, (4, 3)), (3, (4, 2)), (2, (4, 1)), (1, (4, 0)), (0, (6, 0))]) (stN := [(0, 5), (0, 5)]) (hsN := jpA_1912) (c1 := 0) (s1 := 0) (c2 := 0) (s2 := 0) (by exact rfl) ?_ (by omega) (by omega)
  refine jT_xiconst (k := 5) (pcN := 33) jI_379_32 rfl ?_
  refine jT_xisub (x := 5) (y := 5) (z := 0) (pcN := 34) jI_379_33 rfl (by decide) rfl ?_
  refine jT_xicT (pcN := 3746) jI_379_34 rfl (by decide +kernel) rfl ?_
  refine jT_xiconst (k := 1) (pcN := 3747) jI_379_3746 rfl ?_
  exact jT_ret rfl (by decide) (by show 41 ≤ 41; decide) (by omega) (by omega) ⟨rfl, rfl⟩
def jpA_3697 : List JC := [jzA_265, jzA_266, (101, [], [0]), jgh, (8, [(4, 30), (4, 31)], []), jgh, jgh, jgh, jgh, jgh, jgh, jgh, jgh, jgh, jzA_721, (100, [], jS0), jgh, jgh, jgh, jgh, (130, [], [37, 38, 39, 40, 41, 42]), (101, [], [0, 0, 0, 0, 0, 0]), jgh, jgh, jgh, jgh, jgh, jgh, jgh, jgh, jgh, jgh, jgh, (117, [], [43, 44, 45, 46]), jgh, jgh, jgh, (100, [], (jenc (jlg 0))), jgh, jgh, jgh, jgh, jgh, (7, [(4, 47), (4, (-1)), (4, (-1))], []), jgh, jgh, jgh, (114, [], [48]), (4, [(4, 49), (1, 1)], []), (101, [], [0, 0, 0, 0, 0, 0])]
def jpA_3698 : List JC := [jzA_265, jzA_266, (101, [], [1200]), jgh, (8, [(4, 30), (4, 31)], []), jgh, jgh, jgh, jgh, jgh, jgh, jgh, jgh, jgh, jzA_721, (100, [], jS0), jgh, jgh, jgh, jgh, (130, [], [37, 38, 39, 40, 41, 42]), (101, [], [0, 0, 0, 0, 0, 0]), jgh, jgh, jgh, jgh, jgh, jgh, jgh, jgh, jgh, jgh, jgh, (117, [], [43, 44, 45, 46]), jgh, jgh, jgh, (100, [], (jenc (jlg 0))), jgh, jgh, jgh, jgh, jgh, (7, [(4, 47), (4, 50), (4, (-1))], []), jgh, jgh, jgh, (114, [], [48]), (4, [(4, 49), (1, 1)], []), (101, [], [0, 0, 0, 0, 0, 0]), (114, [], [54]), (101, [], [0, 0, 0, 0, 0, 0]), (4, [(4, 51), (1, 1)], []), (101, [], [1, 0, 0, 0, 0, 0]), (4, [(4, 53), (1, 1)], [])]
def jpA_3699 : List JC := [jzA_265, jzA_266, (101, [], [1200]), jgh, (8, [(4, 30), (4, 31)], []), jgh, jgh, jgh, jgh, jgh, jgh, jgh, jgh, jgh, jzA_721, (100, [], jS0), jgh, jgh, jgh, jgh, (130, [], [37, 38, 39, 40, 41, 42]), (101, [], [1, 0, 0, 0, 0, 0]), jgh, jgh, jgh, jgh, jgh, jgh, jgh, jgh, jgh, jgh, jgh, (117, [], [43, 44, 45, 46]), jgh, jgh, jgh, (100, [], (jenc (jlg 0))), jgh, jgh, jgh, jgh, jgh, (7, [(4, 47), (4, 50), (4, (-1))], []), jgh, jgh, jgh, (114, [], [48]), (4, [(4, 49), (1, 1)], []), (101, [], [0, 0, 0, 0, 0, 0]), (114, [], [54]), (101, [], [0, 0, 0, 0, 0, 0]), (4, [(4, 51), (1, 1)], []), (101, [], [1, 0, 0, 0, 0, 0]), (4, [(4, 53), (1, 1)], []), (101, [], [1200, 0, 0, 0, 0, 0]), (101, [], [2401, 0, 0, 0, 0, 0]), (101, [], [1, 0, 0, 0, 0, 0]), (100, [], (jenc 0)), (100, [], (jenc 1)), (100, [], (jenc (1 * (jlg 0)))), (101, [], [(-1), 0, 0, 0, 0, 0]), (100, [], (jenc 0)), (100, [], (jenc (-1))), (100, [], (jenc ((-1) * (jlg 0))))]
theorem jI_379_2403 : jmI (jm 379) 2403 = (.aload_n 3, 1) := by rfl
theorem jI_379_2404 : jmI (jm 379) 2404 = (.iconst 0, 1) := by rfl
theorem jI_379_2405 : jmI (jm 379) 2405 = (.laload, 1) := by rfl
theorem jI_379_2406 : jmI (jm 379) 2406 = (.iload 7, 2) := by rfl
theorem jI_379_2408 : jmI (jm 379) 2408 = (.i2l, 1) := by rfl
theorem jI_379_2410 : jmI (jm 379) 2410 = (.ifCond .eq 5, 3) := by rfl
set_option maxRecDepth 100000 in
theorem jL_30_2 {d : Nat} {x0 x1 x2 x3 x4 : Int} (h_x0 : (-2147483648) ≤ x0 ∧ x0 ≤ 2147483647) (h_x1 : 0 ≤ x1 ∧ x1 ≤ 0) (h_x2 : 0 ≤ x2 ∧ x2 ≤ 0) (h_x3 : (-2147483648) ≤ x3 ∧ x3 ≤ (-1)) (h_x4 : (-2147483648) ≤ x4 ∧ x4 ≤ 2147483647) : jT [x0, x1, x2, x3, x4] (d + 9) 379 50 2322 [(5, (0, 0)), (4, (4, 3)), (3, (4, 2)), (2, (4, 1)), (1, (4, 0)), (0, (6, 0))] [] jpA_3697 15 377 (fun k v hsN => k = 0 ∧ v = (0, 1)) := by
  refine jT_xaload_n (v := (4, 0)) (pcN := 2323) jI_379_2322 rfl rfl rfl ?_
  refine jT_xaload_n (v := (6, 0)) (pcN := 2324) jI_379_2323 rfl rfl rfl ?_
  refine jT_xiload (v := (0, 0)) (pcN := 2326) jI_379_2324 rfl rfl rfl ?_
  refine jT_xiconst (k := 1) (pcN := 2327) jI_379_2326 rfl ?_
  refine jT_xiadd (x := 0) (y := 1) (z := 1) (pcN := 2328) jI_379_2327 rfl (by decide) rfl ?_
  refine jT_adv 1 (pcN := 2329) (LN := [(5, (0, 0)), (4, (4, 3)), (3, (4, 2)), (2, (4, 1)), (1, (4, 0)), (0, (6, 0))]) (stN := [(0, x1), (4, 0)]) (hsN := jpA_3697) (c1 := 0) (s1 := 0) (c2 := 15) (s2 := 377) (by exact rfl) ?_ (by omega) (by omega)
  refine jT_eq (LN := [(5, (0, 0)), (4, (4, 3)), (3, (4, 2)), (2, (4, 1)), (1, (4, 0)), (0, (6, 0))]) (stN := [(0, 0), (4, 0)]) (hsN := [jzA_265, jzA_266, (101, [], [0]), jgh, (8, [(4, 30), (4, 31)], []), jgh, jgh, jgh, jgh, jgh, jgh, jgh, jgh, jgh, jzA_721, (100, [], jS0), jgh, jgh, jgh, jgh, (130, [], [37, 38, 39, 40, 41, 42]), (101, [], [0, 0, 0, 0, 0, 0]), jgh, jgh, jgh, jgh, jgh, jgh, jgh, jgh, jgh, jgh, jgh, (117, [], [43, 44, 45, 46]), jgh, jgh, jgh, (100, [], (jenc (jlg 0))), jgh, jgh, jgh, jgh, jgh, (7, [(4, 47), (4, (-1)), (4, (-1))], []), jgh, jgh, jgh, (114, [], [48]), (4, [(4, 49), (1, 1)], []), (101, [], [0, 0, 0, 0, 0, 0])]) (rfl) (by simp only [List.cons.injEq, Prod.mk.injEq, and_true, true_and] <;> ((try unfold jw); (try unfold jwl); omega)) (rfl) ?_
  refine jT_xaload_n (v := (6, 0)) (pcN := 2330) jI_379_2329 rfl rfl rfl ?_
  refine jT_xiload (v := (0, 0)) (pcN := 2332) jI_379_2330 rfl rfl rfl ?_
  refine jT_xiconst (k := 2) (pcN := 2333) jI_379_2332 rfl ?_
  refine jT_xiadd (x := 0) (y := 2) (z := 2) (pcN := 2334) jI_379_2333 rfl (by decide) rfl ?_
  refine jT_adv 1 (pcN := 2335) (LN := [(5, (0, 0)), (4, (4, 3)), (3, (4, 2)), (2, (4, 1)), (1, (4, 0)), (0, (6, 0))]) (stN := [(0, x2), (0, 0), (4, 0)]) (hsN := jpA_3697) (c1 := 0) (s1 := 0) (c2 := 15) (s2 := 377) (by exact rfl) ?_ (by omega) (by omega)
  refine jT_eq (LN := [(5, (0, 0)), (4, (4, 3)), (3, (4, 2)), (2, (4, 1)), (1, (4, 0)), (0, (6, 0))]) (stN := [(0, 0), (0, 0), (4, 0)]) (hsN := [jzA_265, jzA_266, (101, [], [0]), jgh, (8, [(4, 30), (4, 31)], []), jgh, jgh, jgh, jgh, jgh, jgh, jgh, jgh, jgh, jzA_721, (100, [], jS0), jgh, jgh, jgh, jgh, (130, [], [37, 38, 39, 40, 41, 42]), (101, [], [0, 0, 0, 0, 0, 0]), jgh, jgh, jgh, jgh, jgh, jgh, jgh, jgh, jgh, jgh, jgh, (117, [], [43, 44, 45, 46]), jgh, jgh, jgh, (100, [], (jenc (jlg 0))), jgh, jgh, jgh, jgh, jgh, (7, [(4, 47), (4, (-1)), (4, (-1))], []), jgh, jgh, jgh, (114, [], [48]), (4, [(4, 49), (1, 1)], []), (101, [], [0, 0, 0, 0, 0, 0])]) (rfl) (by simp only [List.cons.injEq, Prod.mk.injEq, and_true, true_and] <;> ((try unfold jw); (try unfold jwl); omega)) (rfl) ?_
  refine jT_xaload_n (v := (6, 0)) (pcN := 2336) jI_379_2335 rfl rfl rfl ?_
  refine jT_xiload (v := (0, 0)) (pcN := 2338) jI_379_2336 rfl rfl rfl ?_
  refine jT_xiconst (k := 3) (pcN := 2339) jI_379_2338 rfl ?_
  refine jT_xiadd (x := 0) (y := 3) (z := 3) (pcN := 2340) jI_379_2339 rfl (by decide) rfl ?_
  refine jT_adv 1 (pcN := 2341) (LN := [(5, (0, 0)), (4, (4, 3)), (3, (4, 2)), (2, (4, 1)), (1, (4, 0)), (0, (6, 0))]) (stN := [(0, x3), (0, 0), (0, 0), (4, 0)]) (hsN := jpA_3697) (c1 := 0) (s1 := 0) (c2 := 15) (s2 := 377) (by exact rfl) ?_ (by omega) (by omega)
  refine jT_ifF (a := x3) (t := 2348) (by rfl) (by rfl) (by rfl) (jw_idd (by omega) (by omega)) (by simp only [jcP] <;> omega) ?_
  refine jT_xiconst (k := 1) (pcN := 2345) jI_379_2344 rfl ?_
  refine jT_xgoto (pcN := 2349) jI_379_2345 rfl ?_
  refine jT_xaload_n (v := (4, 2)) (pcN := 2350) jI_379_2349 rfl rfl rfl ?_
  refine jT_fB [0, 2, 4, 5, 6, 7, 8, 9, 10, 11, 12, 13, 14, 30, 31, 32, 33, 34, 35, 36, 43, 44, 45, 46, 47, 48, 49] 50 (y := 354) (pcN := 2353) (dC := 6) (bc1 := 5) (bc2 := 17) (c1 := 10) (c2 := 360) (as := [(4, 0), (0, 0), (0, 0), (0, 1), (4, 2)]) (asC := [(4, 0), (0, 0), (0, 0), (0, 1), (4, 1)]) (LN := [(5, (0, 0)), (4, (4, 3)), (3, (4, 2)), (2, (4, 1)), (1, (4, 0)), (0, (6, 0))]) (stN := []) (hsC := jpA_3615) (hsD := jpA_3617) (v := (0, 0)) (st2 := [(0, 0)]) (hs2 := jpA_3698) (jA_354_906 (d := 0)) (by rfl) (by rfl) (by decide +kernel) (by rfl) (by rfl) (by omega) (by omega) (by omega) (by omega) rfl (by decide +kernel) ?_
  refine jT_xistore (v := (0, 0)) (LN := [(6, (0, 0)), (5, (0, 0)), (4, (4, 3)), (3, (4, 2)), (2, (4, 1)), (1, (4, 0)), (0, (6, 0))]) (pcN := 2355) jI_379_2353 rfl rfl rfl rfl ?_
  refine jT_xaload_n (v := (4, 1)) (pcN := 2356) jI_379_2355 rfl rfl rfl ?_
  refine jT_xaload_n (v := (6, 0)) (pcN := 2357) jI_379_2356 rfl rfl rfl ?_
  refine jT_xiload (v := (0, 0)) (pcN := 2359) jI_379_2357 rfl rfl rfl ?_
  refine jT_xiconst (k := 1) (pcN := 2360) jI_379_2359 rfl ?_
  refine jT_xiadd (x := 0) (y := 1) (z := 1) (pcN := 2361) jI_379_2360 rfl (by decide) rfl ?_
  refine jT_adv 1 (pcN := 2362) (LN := [(6, (0, 0)), (5, (0, 0)), (4, (4, 3)), (3, (4, 2)), (2, (4, 1)), (1, (4, 0)), (0, (6, 0))]) (stN := [(0, x1), (4, 1)]) (hsN := jpA_3698) (c1 := 0) (s1 := 0) (c2 := 10) (s2 := 360) (by exact rfl) ?_ (by omega) (by omega)
  refine jT_eq (LN := [(6, (0, 0)), (5, (0, 0)), (4, (4, 3)), (3, (4, 2)), (2, (4, 1)), (1, (4, 0)), (0, (6, 0))]) (stN := [(0, 0), (4, 1)]) (hsN := [jzA_265, jzA_266, (101, [], [1200]), jgh, (8, [(4, 30), (4, 31)], []), jgh, jgh, jgh, jgh, jgh, jgh, jgh, jgh, jgh, jzA_721, (100, [], jS0), jgh, jgh, jgh, jgh, (130, [], [37, 38, 39, 40, 41, 42]), (101, [], [0, 0, 0, 0, 0, 0]), jgh, jgh, jgh, jgh, jgh, jgh, jgh, jgh, jgh, jgh, jgh, (117, [], [43, 44, 45, 46]), jgh, jgh, jgh, (100, [], (jenc (jlg 0))), jgh, jgh, jgh, jgh, jgh, (7, [(4, 47), (4, 50), (4, (-1))], []), jgh, jgh, jgh, (114, [], [48]), (4, [(4, 49), (1, 1)], []), (101, [], [0, 0, 0, 0, 0, 0]), (114, [], [54]), (101, [], [0, 0, 0, 0, 0, 0]), (4, [(4, 51), (1, 1)], []), (101, [], [1, 0, 0, 0, 0, 0]), (4, [(4, 53), (1, 1)], [])]) (rfl) (by simp only [List.cons.injEq, Prod.mk.injEq, and_true, true_and] <;> ((try unfold jw); (try unfold jwl); omega)) (rfl) ?_
  refine jT_xaload_n (v := (6, 0)) (pcN := 2363) jI_379_2362 rfl rfl rfl ?_
  refine jT_xiload (v := (0, 0)) (pcN := 2365) jI_379_2363 rfl rfl rfl ?_
  refine jT_xiconst (k := 2) (pcN := 2366) jI_379_2365 rfl ?_
  refine jT_xiadd (x := 0) (y := 2) (z := 2) (pcN := 2367) jI_379_2366 rfl (by decide) rfl ?_
  refine jT_adv 1 (pcN := 2368) (LN := [(6, (0, 0)), (5, (0, 0)), (4, (4, 3)), (3, (4, 2)), (2, (4, 1)), (1, (4, 0)), (0, (6, 0))]) (stN := [(0, x2), (0, 0), (4, 1)]) (hsN := jpA_3698) (c1 := 0) (s1 := 0) (c2 := 10) (s2 := 360) (by exact rfl) ?_ (by omega) (by omega)
  refine jT_eq (LN := [(6, (0, 0)), (5, (0, 0)), (4, (4, 3)), (3, (4, 2)), (2, (4, 1)), (1, (4, 0)), (0, (6, 0))]) (stN := [(0, 0), (0, 0), (4, 1)]) (hsN := [jzA_265, jzA_266, (101, [], [1200]), jgh, (8, [(4, 30), (4, 31)], []), jgh, jgh, jgh, jgh, jgh, jgh, jgh, jgh, jgh, jzA_721, (100, [], jS0), jgh, jgh, jgh, jgh, (130, [], [37, 38, 39, 40, 41, 42]), (101, [], [0, 0, 0, 0, 0, 0]), jgh, jgh, jgh, jgh, jgh, jgh, jgh, jgh, jgh, jgh, jgh, (117, [], [43, 44, 45, 46]), jgh, jgh, jgh, (100, [], (jenc (jlg 0))), jgh, jgh, jgh, jgh, jgh, (7, [(4, 47), (4, 50), (4, (-1))], []), jgh, jgh, jgh, (114, [], [48]), (4, [(4, 49), (1, 1)], []), (101, [], [0, 0, 0, 0, 0, 0]), (114, [], [54]), (101, [], [0, 0, 0, 0, 0, 0]), (4, [(4, 51), (1, 1)], []), (101, [], [1, 0, 0, 0, 0, 0]), (4, [(4, 53), (1, 1)], [])]) (rfl) (by simp only [List.cons.injEq, Prod.mk.injEq, and_true, true_and] <;> ((try unfold jw); (try unfold jwl); omega)) (rfl) ?_
  refine jT_xaload_n (v := (6, 0)) (pcN := 2369) jI_379_2368 rfl rfl rfl ?_
  refine jT_xiload (v := (0, 0)) (pcN := 2371) jI_379_2369 rfl rfl rfl ?_
  refine jT_xiconst (k := 3) (pcN := 2372) jI_379_2371 rfl ?_
  refine jT_xiadd (x := 0) (y := 3) (z := 3) (pcN := 2373) jI_379_2372 rfl (by decide) rfl ?_
  refine jT_adv 1 (pcN := 2374) (LN := [(6, (0, 0)), (5, (0, 0)), (4, (4, 3)), (3, (4, 2)), (2, (4, 1)), (1, (4, 0)), (0, (6, 0))]) (stN := [(0, x3), (0, 0), (0, 0), (4, 1)]) (hsN := jpA_3698) (c1 := 0) (s1 := 0) (c2 := 10) (s2 := 360) (by exact rfl) ?_ (by omega) (by omega)
  refine jT_ifF (a := x3) (t := 2381) (by rfl) (by rfl) (by rfl) (jw_idd (by omega) (by omega)) (by simp only [jcP] <;> omega) ?_
  refine jT_xiconst (k := 1) (pcN := 2378) jI_379_2377 rfl ?_
  refine jT_xgoto (pcN := 2382) jI_379_2378 rfl ?_
  refine jT_fB [1, 15, 16, 17, 18, 19, 20, 21, 22, 23, 24, 25, 26, 27, 28, 29, 37, 38, 39, 40, 41, 42] 55 (y := 279) (pcN := 2385) (dC := 8) (bc1 := 10) (bc2 := 360) (c1 := 0) (c2 := 0) (as := [(4, 1), (0, 0), (0, 0), (0, 1)]) (asC := [(4, 0), (0, 0), (0, 0), (0, 1)]) (LN := [(6, (0, 0)), (5, (0, 0)), (4, (4, 3)), (3, (4, 2)), (2, (4, 1)), (1, (4, 0)), (0, (6, 0))]) (stN := []) (hsC := jpA_1695) (hsD := jpA_3636) (v := (0, 1200)) (st2 := [(0, 1200)]) (hs2 := jpA_3699) (jA_279_917 (d := 0)) (by rfl) (by rfl) (by decide +kernel) (by rfl) (by rfl) (by omega) (by omega) (by omega) (by omega) rfl (by decide +kernel) ?_
  refine jT_xistore (v := (0, 1200)) (LN := [(7, (0, 1200)), (6, (0, 0)), (5, (0, 0)), (4, (4, 3)), (3, (4, 2)), (2, (4, 1)), (1, (4, 0)), (0, (6, 0))]) (pcN := 2387) jI_379_2385 rfl rfl rfl rfl ?_
  refine jT_xaload_n (v := (4, 1)) (pcN := 2388) jI_379_2387 rfl rfl rfl ?_
  refine jT_fR [1, 15, 16, 17, 18, 19, 20, 21, 22, 23, 24, 25, 26, 27, 28, 29] 65 (y := 186) (pcN := 2391) (dC := 0) (bc1 := 0) (bc2 := 0) (c1 := 0) (c2 := 0) (as := [(4, 1)]) (asC := [(4, 0)]) (LN := [(7, (0, 1200)), (6, (0, 0)), (5, (0, 0)), (4, (4, 3)), (3, (4, 2)), (2, (4, 1)), (1, (4, 0)), (0, (6, 0))]) (stN := []) (hsC := jpA_22) (v := (0, 0)) (st2 := [(0, 0)]) (jA_186_726 (d := 0)) (by rfl) (by rfl) (by decide +kernel) (by rfl) (by rfl) (by omega) (by omega) (by omega) (by omega) rfl ?_
  refine jT_xiload (v := (0, 0)) (pcN := 2393) jI_379_2391 rfl rfl rfl ?_
  refine jT_xicT (pcN := 2398) jI_379_2393 rfl (by decide +kernel) rfl ?_
  refine jT_xiload (v := (0, 0)) (pcN := 2400) jI_379_2398 rfl rfl rfl ?_
  refine jT_xifF (t := 2415) (pcN := 2403) jI_379_2400 rfl (by decide +kernel) rfl rfl ?_
  refine jT_xaload_n (v := (4, 2)) (pcN := 2404) jI_379_2403 rfl rfl rfl ?_
  refine jT_xiconst (k := 0) (pcN := 2405) jI_379_2404 rfl ?_
  refine jT_lald (x := 1200) (a := 2) (j := 0) (fs := []) (X := [1200]) jI_379_2405 rfl rfl rfl rfl ?_
  refine jT_eq (LN := [(7, (0, 1200)), (6, (0, 0)), (5, (0, 0)), (4, (4, 3)), (3, (4, 2)), (2, (4, 1)), (1, (4, 0)), (0, (6, 0))]) (stN := [(1, 1200)]) (hsN := jpA_3699) rfl rfl rfl ?_
  refine jT_xiload (v := (0, 1200)) (pcN := 2408) jI_379_2406 rfl rfl rfl ?_
  refine jT_xi2l (x := 1200) (z := 1200) (pcN := 2409) jI_379_2408 rfl (by decide +kernel) rfl ?_
  refine jT_lcmp (a := 1200) (b := 1200) (z := 0) (by rfl) (by rfl) (by decide +kernel) (by decide +kernel) (by decide) ?_
  refine jT_xifT (pcN := 2415) jI_379_2410 rfl (by decide +kernel) rfl ?_
  refine jT_xgoto (pcN := 3740) jI_379_2415 rfl ?_
  refine jT_xiinc (x := 0) (z := 5) (LN := [(5, (0, 5)), (7, (0, 1200)), (6, (0, 0)), (4, (4, 3)), (3, (4, 2)), (2, (4, 1)), (1, (4, 0)), (0, (6, 0))]) (pcN := 3743) jI_379_3740 rfl rfl (by decide) rfl rfl ?_
  refine jT_xgoto (pcN := 28) jI_379_3743 rfl ?_
  refine jT_xiload (v := (0, 5)) (pcN := 30) jI_379_28 rfl rfl rfl ?_
  refine jT_xaload_n (v := (6, 0)) (pcN := 31) jI_379_30 rfl rfl rfl ?_
  refine jT_adv 1 (pcN := 32) (LN := [(5, (0, 5)), (7, (0, 1200)), (6, (0, 0)), (4, (4, 3)), (3, (4, 2)), (2, (4, 1)), (1, (4, 0)), (0, (6, 0))]) (stN := [(0, 5), (0, 5)]) (hsN := jpA_3699) (c1 := 0) (s1 := 0) (c2 := 0) (s2 := 0) (by exact rfl) ?_ (by omega) (by omega)
  refine jT_xiconst (k := 5) (pcN := 33) jI_379_32 rfl ?_
  refine jT_xisub (x := 5) (y := 5) (z := 0) (pcN := 34) jI_379_33 rfl (by decide) rfl ?_
  refine jT_xicT (pcN := 3746) jI_379_34 rfl (by decide +kernel) rfl ?_
  refine jT_xiconst (k := 1) (pcN := 3747) jI_379_3746 rfl ?_
  exact jT_ret rfl (by decide) (by show 50 ≤ 65; decide) (by omega) (by omega) ⟨rfl, rfl⟩
set_option maxRecDepth 100000 in
theorem jL_30_3 {d : Nat} {x0 x1 x2 x3 x4 : Int} (h_x0 : (-2147483648) ≤ x0 ∧ x0 ≤ 2147483647) (h_x1 : 0 ≤ x1 ∧ x1 ≤ 0) (h_x2 : 1 ≤ x2 ∧ x2 ≤ 2147483647) (h_x3 : (-2147483648) ≤ x3 ∧ x3 ≤ (-1)) (h_x4 : (-2147483648) ≤ x4 ∧ x4 ≤ 2147483647) : jT [x0, x1, x2, x3, x4] (d + 3) 379 41 2322 [(5, (0, 0)), (4, (4, 3)), (3, (4, 2)), (2, (4, 1)), (1, (4, 0)), (0, (6, 0))] [] jpA_1911 1 6 (fun k v hsN => k = 0 ∧ v = (0, 1)) := by
  refine jT_xaload_n (v := (4, 0)) (pcN := 2323) jI_379_2322 rfl rfl rfl ?_
  refine jT_xaload_n (v := (6, 0)) (pcN := 2324) jI_379_2323 rfl rfl rfl ?_
  refine jT_xiload (v := (0, 0)) (pcN := 2326) jI_379_2324 rfl rfl rfl ?_
  refine jT_xiconst (k := 1) (pcN := 2327) jI_379_2326 rfl ?_
  refine jT_xiadd (x := 0) (y := 1) (z := 1) (pcN := 2328) jI_379_2327 rfl (by decide) rfl ?_
  refine jT_adv 1 (pcN := 2329) (LN := [(5, (0, 0)), (4, (4, 3)), (3, (4, 2)), (2, (4, 1)), (1, (4, 0)), (0, (6, 0))]) (stN := [(0, x1), (4, 0)]) (hsN := jpA_1911) (c1 := 0) (s1 := 0) (c2 := 1) (s2 := 6) (by exact rfl) ?_ (by omega) (by omega)
  refine jT_eq (LN := [(5, (0, 0)), (4, (4, 3)), (3, (4, 2)), (2, (4, 1)), (1, (4, 0)), (0, (6, 0))]) (stN := [(0, 0), (4, 0)]) (hsN := [jzA_265, jzA_266, jgh, jgh, jgh, jgh, jgh, jgh, jgh, jgh, jgh, jgh, jgh, jgh, jzA_322, (100, [], jS0), jgh, jgh, jgh, jgh, jgh, jgh, jgh, jgh, jgh, jgh, jgh, jgh, jgh, jgh, jgh, (117, [], [35, 36, 37, 38]), jgh, jgh, jgh, (7, [(4, 39), (4, (-1)), (4, (-1))], []), jgh, jgh, jgh, (114, [], [40]), jgh]) (rfl) (by simp only [List.cons.injEq, Prod.mk.injEq, and_true, true_and] <;> ((try unfold jw); (try unfold jwl); omega)) (rfl) ?_
  refine jT_xaload_n (v := (6, 0)) (pcN := 2330) jI_379_2329 rfl rfl rfl ?_
  refine jT_xiload (v := (0, 0)) (pcN := 2332) jI_379_2330 rfl rfl rfl ?_
  refine jT_xiconst (k := 2) (pcN := 2333) jI_379_2332 rfl ?_
  refine jT_xiadd (x := 0) (y := 2) (z := 2) (pcN := 2334) jI_379_2333 rfl (by decide) rfl ?_
  refine jT_adv 1 (pcN := 2335) (LN := [(5, (0, 0)), (4, (4, 3)), (3, (4, 2)), (2, (4, 1)), (1, (4, 0)), (0, (6, 0))]) (stN := [(0, x2), (0, 0), (4, 0)]) (hsN := jpA_1911) (c1 := 0) (s1 := 0) (c2 := 1) (s2 := 6) (by exact rfl) ?_ (by omega) (by omega)
  refine jT_xaload_n (v := (6, 0)) (pcN := 2336) jI_379_2335 rfl rfl rfl ?_
  refine jT_xiload (v := (0, 0)) (pcN := 2338) jI_379_2336 rfl rfl rfl ?_
  refine jT_xiconst (k := 3) (pcN := 2339) jI_379_2338 rfl ?_
  refine jT_xiadd (x := 0) (y := 3) (z := 3) (pcN := 2340) jI_379_2339 rfl (by decide) rfl ?_
  refine jT_adv 1 (pcN := 2341) (LN := [(5, (0, 0)), (4, (4, 3)), (3, (4, 2)), (2, (4, 1)), (1, (4, 0)), (0, (6, 0))]) (stN := [(0, x3), (0, x2), (0, 0), (4, 0)]) (hsN := jpA_1911) (c1 := 0) (s1 := 0) (c2 := 1) (s2 := 6) (by exact rfl) ?_ (by omega) (by omega)
  refine jT_ifF (a := x3) (t := 2348) (by rfl) (by rfl) (by rfl) (jw_idd (by omega) (by omega)) (by simp only [jcP] <;> omega) ?_
  refine jT_xiconst (k := 1) (pcN := 2345) jI_379_2344 rfl ?_
  refine jT_xgoto (pcN := 2349) jI_379_2345 rfl ?_
  refine jT_xaload_n (v := (4, 2)) (pcN := 2350) jI_379_2349 rfl rfl rfl ?_
  refine jT_fR [0, 2, 4, 5, 6, 7, 8, 9, 10, 11, 12, 13, 14, 30, 31, 32, 33, 34, 35, 36, 37, 38, 39, 40] 41 (y := 354) (pcN := 2353) (dC := 2) (bc1 := 1) (bc2 := 6) (c1 := 0) (c2 := 0) (as := [(4, 0), (0, 0), (0, x2), (0, 1), (4, 2)]) (asC := [(4, 0), (0, 0), (0, x2), (0, 1), (4, 1)]) (LN := [(5, (0, 0)), (4, (4, 3)), (3, (4, 2)), (2, (4, 1)), (1, (4, 0)), (0, (6, 0))]) (stN := []) (hsC := jpA_1806) (v := (0, 1)) (st2 := [(0, 1)]) (jA_354_919 (d := 0) (by omega)) (by rfl) (by rfl) (by decide +kernel) (by rfl) (by rfl) (by omega) (by omega) (by omega) (by omega) rfl ?_
  refine jT_xistore (v := (0, 1)) (LN := [(6, (0, 1)), (5, (0, 0)), (4, (4, 3)), (3, (4, 2)), (2, (4, 1)), (1, (4, 0)), (0, (6, 0))]) (pcN := 2355) jI_379_2353 rfl rfl rfl rfl ?_
  refine jT_xaload_n (v := (4, 1)) (pcN := 2356) jI_379_2355 rfl rfl rfl ?_
  refine jT_xaload_n (v := (6, 0)) (pcN := 2357) jI_379_2356 rfl rfl rfl ?_
  refine jT_xiload (v := (0, 0)) (pcN := 2359) jI_379_2357 rfl rfl rfl ?_
  refine jT_xiconst (k := 1) (pcN := 2360) jI_379_2359 rfl ?_
  refine jT_xiadd (x := 0) (y := 1) (z := 1) (pcN := 2361) jI_379_2360 rfl (by decide) rfl ?_
  refine jT_adv 1 (pcN := 2362) (LN := [(6, (0, 1)), (5, (0, 0)), (4, (4, 3)), (3, (4, 2)), (2, (4, 1)), (1, (4, 0)), (0, (6, 0))]) (stN := [(0, x1), (4, 1)]) (hsN := jpA_1911) (c1 := 0) (s1 := 0) (c2 := 0) (s2 := 0) (by exact rfl) ?_ (by omega) (by omega)
  refine jT_eq (LN := [(6, (0, 1)), (5, (0, 0)), (4, (4, 3)), (3, (4, 2)), (2, (4, 1)), (1, (4, 0)), (0, (6, 0))]) (stN := [(0, 0), (4, 1)]) (hsN := [jzA_265, jzA_266, jgh, jgh, jgh, jgh, jgh, jgh, jgh, jgh, jgh, jgh, jgh, jgh, jzA_322, (100, [], jS0), jgh, jgh, jgh, jgh, jgh, jgh, jgh, jgh, jgh, jgh, jgh, jgh, jgh, jgh, jgh, (117, [], [35, 36, 37, 38]), jgh, jgh, jgh, (7, [(4, 39), (4, (-1)), (4, (-1))], []), jgh, jgh, jgh, (114, [], [40]), jgh]) (rfl) (by simp only [List.cons.injEq, Prod.mk.injEq, and_true, true_and] <;> ((try unfold jw); (try unfold jwl); omega)) (rfl) ?_
  refine jT_xaload_n (v := (6, 0)) (pcN := 2363) jI_379_2362 rfl rfl rfl ?_
  refine jT_xiload (v := (0, 0)) (pcN := 2365) jI_379_2363 rfl rfl rfl ?_
  refine jT_xiconst (k := 2) (pcN := 2366) jI_379_2365 rfl ?_
  refine jT_xiadd (x := 0) (y := 2) (z := 2) (pcN := 2367) jI_379_2366 rfl (by decide) rfl ?_
  refine jT_adv 1 (pcN := 2368) (LN := [(6, (0, 1)), (5, (0, 0)), (4, (4, 3)), (3, (4, 2)), (2, (4, 1)), (1, (4, 0)), (0, (6, 0))]) (stN := [(0, x2), (0, 0), (4, 1)]) (hsN := jpA_1911) (c1 := 0) (s1 := 0) (c2 := 0) (s2 := 0) (by exact rfl) ?_ (by omega) (by omega)
  refine jT_xaload_n (v := (6, 0)) (pcN := 2369) jI_379_2368 rfl rfl rfl ?_
  refine jT_xiload (v := (0, 0)) (pcN := 2371) jI_379_2369 rfl rfl rfl ?_
  refine jT_xiconst (k := 3) (pcN := 2372) jI_379_2371 rfl ?_
  refine jT_xiadd (x := 0) (y := 3) (z := 3) (pcN := 2373) jI_379_2372 rfl (by decide) rfl ?_
  refine jT_adv 1 (pcN := 2374) (LN := [(6, (0, 1)), (5, (0, 0)), (4, (4, 3)), (3, (4, 2)), (2, (4, 1)), (1, (4, 0)), (0, (6, 0))]) (stN := [(0, x3), (0, x2), (0, 0), (4, 1)]) (hsN := jpA_1911) (c1 := 0) (s1 := 0) (c2 := 0) (s2 := 0) (by exact rfl) ?_ (by omega) (by omega)
  refine jT_ifF (a := x3) (t := 2381) (by rfl) (by rfl) (by rfl) (jw_idd (by omega) (by omega)) (by simp only [jcP] <;> omega) ?_
  refine jT_xiconst (k := 1) (pcN := 2378) jI_379_2377 rfl ?_
  refine jT_xgoto (pcN := 2382) jI_379_2378 rfl ?_
  refine jT_fB [1, 15, 16, 17, 18, 19, 20, 21, 22, 23, 24, 25, 26, 27, 28, 29] 41 (y := 279) (pcN := 2385) (dC := 2) (bc1 := 0) (bc2 := 0) (c1 := 0) (c2 := 0) (as := [(4, 1), (0, 0), (0, x2), (0, 1)]) (asC := [(4, 0), (0, 0), (0, x2), (0, 1)]) (LN := [(6, (0, 1)), (5, (0, 0)), (4, (4, 3)), (3, (4, 2)), (2, (4, 1)), (1, (4, 0)), (0, (6, 0))]) (stN := []) (hsC := jpA_1519) (hsD := jpA_1820) (v := (0, 0)) (st2 := [(0, 0)]) (hs2 := jpA_1912) (jA_279_920 (d := 0) (by omega)) (by rfl) (by rfl) (by decide +kernel) (by rfl) (by rfl) (by omega) (by omega) (by omega) (by omega) rfl (by decide +kernel) ?_
  refine jT_xistore (v := (0, 0)) (LN := [(7, (0, 0)), (6, (0, 1)), (5, (0, 0)), (4, (4, 3)), (3, (4, 2)), (2, (4, 1)), (1, (4, 0)), (0, (6, 0))]) (pcN := 2387) jI_379_2385 rfl rfl rfl rfl ?_
  refine jT_xaload_n (v := (4, 1)) (pcN := 2388) jI_379_2387 rfl rfl rfl ?_
  refine jT_fR [1, 15, 16, 17, 18, 19, 20, 21, 22, 23, 24, 25, 26, 27, 28, 29] 41 (y := 186) (pcN := 2391) (dC := 0) (bc1 := 0) (bc2 := 0) (c1 := 0) (c2 := 0) (as := [(4, 1)]) (asC := [(4, 0)]) (LN := [(7, (0, 0)), (6, (0, 1)), (5, (0, 0)), (4, (4, 3)), (3, (4, 2)), (2, (4, 1)), (1, (4, 0)), (0, (6, 0))]) (stN := []) (hsC := jpA_20) (v := (0, 1)) (st2 := [(0, 1)]) (jA_186_8 (d := 0)) (by rfl) (by rfl) (by decide +kernel) (by rfl) (by rfl) (by omega) (by omega) (by omega) (by omega) rfl ?_
  refine jT_xiload (v := (0, 1)) (pcN := 2393) jI_379_2391 rfl rfl rfl ?_
  refine jT_xicT (pcN := 2398) jI_379_2393 rfl (by decide +kernel) rfl ?_
  refine jT_xiload (v := (0, 1)) (pcN := 2400) jI_379_2398 rfl rfl rfl ?_
  refine jT_xifT (pcN := 2415) jI_379_2400 rfl (by decide +kernel) rfl ?_
  refine jT_xgoto (pcN := 3740) jI_379_2415 rfl ?_
  refine jT_xiinc (x := 0) (z := 5) (LN := [(5, (0, 5)), (7, (0, 0)), (6, (0, 1)), (4, (4, 3)), (3, (4, 2)), (2, (4, 1)), (1, (4, 0)), (0, (6, 0))]) (pcN := 3743) jI_379_3740 rfl rfl (by decide) rfl rfl ?_
  refine jT_xgoto (pcN := 28) jI_379_3743 rfl ?_
  refine jT_xiload (v := (0, 5)) (pcN := 30) jI_379_28 rfl rfl rfl ?_
  refine jT_xaload_n (v := (6, 0)) (pcN := 31) jI_379_30 rfl rfl rfl ?_
  refine jT_adv 1 (pcN := 32) (LN := [(5, (0, 5)), (7, (0, 0)), (6, (0, 1)), (4, (4, 3)), (3, (4, 2)), (2, (4, 1)), (1, (4, 0)), (0, (6, 0))]) (stN := [(0, 5), (0, 5)]) (hsN := jpA_1912) (c1 := 0) (s1 := 0) (c2 := 0) (s2 := 0) (by exact rfl) ?_ (by omega) (by omega)
  refine jT_xiconst (k := 5) (pcN := 33) jI_379_32 rfl ?_
  refine jT_xisub (x := 5) (y := 5) (z := 0) (pcN := 34) jI_379_33 rfl (by decide) rfl ?_
  refine jT_xicT (pcN := 3746) jI_379_34 rfl (by decide +kernel) rfl ?_
  refine jT_xiconst (k := 1) (pcN := 3747) jI_379_3746 rfl ?_
  exact jT_ret rfl (by decide) (by show 41 ≤ 41; decide) (by omega) (by omega) ⟨rfl, rfl⟩
set_option maxRecDepth 100000 in
theorem jL_30_4 {d : Nat} {x0 x1 x2 x3 x4 : Int} (h_x0 : (-2147483648) ≤ x0 ∧ x0 ≤ 2147483647) (h_x1 : 1 ≤ x1 ∧ x1 ≤ 1) (h_x2 : (-2147483648) ≤ x2 ∧ x2 ≤ (-1)) (h_x3 : (-2147483648) ≤ x3 ∧ x3 ≤ (-1)) (h_x4 : (-2147483648) ≤ x4 ∧ x4 ≤ 2147483647) : jT [x0, x1, x2, x3, x4] (d + 3) 379 41 2322 [(5, (0, 0)), (4, (4, 3)), (3, (4, 2)), (2, (4, 1)), (1, (4, 0)), (0, (6, 0))] [] jpA_1923 1 6 (fun k v hsN => k = 0 ∧ v = (0, 1)) := by
  refine jT_xaload_n (v := (4, 0)) (pcN := 2323) jI_379_2322 rfl rfl rfl ?_
  refine jT_xaload_n (v := (6, 0)) (pcN := 2324) jI_379_2323 rfl rfl rfl ?_
  refine jT_xiload (v := (0, 0)) (pcN := 2326) jI_379_2324 rfl rfl rfl ?_
  refine jT_xiconst (k := 1) (pcN := 2327) jI_379_2326 rfl ?_
  refine jT_xiadd (x := 0) (y := 1) (z := 1) (pcN := 2328) jI_379_2327 rfl (by decide) rfl ?_
  refine jT_adv 1 (pcN := 2329) (LN := [(5, (0, 0)), (4, (4, 3)), (3, (4, 2)), (2, (4, 1)), (1, (4, 0)), (0, (6, 0))]) (stN := [(0, x1), (4, 0)]) (hsN := jpA_1923) (c1 := 0) (s1 := 0) (c2 := 1) (s2 := 6) (by exact rfl) ?_ (by omega) (by omega)
  refine jT_eq (LN := [(5, (0, 0)), (4, (4, 3)), (3, (4, 2)), (2, (4, 1)), (1, (4, 0)), (0, (6, 0))]) (stN := [(0, 1), (4, 0)]) (hsN := [jzA_265, jzA_266, jgh, jgh, jgh, jgh, jgh, jgh, jgh, jgh, jgh, jgh, jgh, jgh, jzA_322, (100, [], jS0), jgh, jgh, jgh, jgh, jgh, jgh, jgh, jgh, jgh, jgh, jgh, jgh, jgh, jgh, jgh, (117, [], [35, 36, 37, 38]), jgh, jgh, jgh, jgh, (7, [(4, 39), (4, (-1)), (4, (-1))], []), jgh, jgh, (114, [], [40]), jgh]) (rfl) (by simp only [List.cons.injEq, Prod.mk.injEq, and_true, true_and] <;> ((try unfold jw); (try unfold jwl); omega)) (rfl) ?_
  refine jT_xaload_n (v := (6, 0)) (pcN := 2330) jI_379_2329 rfl rfl rfl ?_
  refine jT_xiload (v := (0, 0)) (pcN := 2332) jI_379_2330 rfl rfl rfl ?_
  refine jT_xiconst (k := 2) (pcN := 2333) jI_379_2332 rfl ?_
  refine jT_xiadd (x := 0) (y := 2) (z := 2) (pcN := 2334) jI_379_2333 rfl (by decide) rfl ?_
  refine jT_adv 1 (pcN := 2335) (LN := [(5, (0, 0)), (4, (4, 3)), (3, (4, 2)), (2, (4, 1)), (1, (4, 0)), (0, (6, 0))]) (stN := [(0, x2), (0, 1), (4, 0)]) (hsN := jpA_1923) (c1 := 0) (s1 := 0) (c2 := 1) (s2 := 6) (by exact rfl) ?_ (by omega) (by omega)
  refine jT_xaload_n (v := (6, 0)) (pcN := 2336) jI_379_2335 rfl rfl rfl ?_
  refine jT_xiload (v := (0, 0)) (pcN := 2338) jI_379_2336 rfl rfl rfl ?_
  refine jT_xiconst (k := 3) (pcN := 2339) jI_379_2338 rfl ?_
  refine jT_xiadd (x := 0) (y := 3) (z := 3) (pcN := 2340) jI_379_2339 rfl (by decide) rfl ?_
  refine jT_adv 1 (pcN := 2341) (LN := [(5, (0, 0)), (4, (4, 3)), (3, (4, 2)), (2, (4, 1)), (1, (4, 0)), (0, (6, 0))]) (stN := [(0, x3), (0, x2), (0, 1), (4, 0)]) (hsN := jpA_1923) (c1 := 0) (s1 := 0) (c2 := 1) (s2 := 6) (by exact rfl) ?_ (by omega) (by omega)
  refine jT_ifF (a := x3) (t := 2348) (by rfl) (by rfl) (by rfl) (jw_idd (by omega) (by omega)) (by simp only [jcP] <;> omega) ?_
  refine jT_xiconst (k := 1) (pcN := 2345) jI_379_2344 rfl ?_
  refine jT_xgoto (pcN := 2349) jI_379_2345 rfl ?_
  refine jT_xaload_n (v := (4, 2)) (pcN := 2350) jI_379_2349 rfl rfl rfl ?_
  refine jT_fR [0, 2, 4, 5, 6, 7, 8, 9, 10, 11, 12, 13, 14, 30, 31, 32, 33, 34, 35, 36, 37, 38, 39, 40] 41 (y := 354) (pcN := 2353) (dC := 2) (bc1 := 1) (bc2 := 6) (c1 := 0) (c2 := 0) (as := [(4, 0), (0, 1), (0, x2), (0, 1), (4, 2)]) (asC := [(4, 0), (0, 1), (0, x2), (0, 1), (4, 1)]) (LN := [(5, (0, 0)), (4, (4, 3)), (3, (4, 2)), (2, (4, 1)), (1, (4, 0)), (0, (6, 0))]) (stN := []) (hsC := jpA_1846) (v := (0, 1)) (st2 := [(0, 1)]) (jA_354_922 (d := 0) (by omega)) (by rfl) (by rfl) (by decide +kernel) (by rfl) (by rfl) (by omega) (by omega) (by omega) (by omega) rfl ?_
  refine jT_xistore (v := (0, 1)) (LN := [(6, (0, 1)), (5, (0, 0)), (4, (4, 3)), (3, (4, 2)), (2, (4, 1)), (1, (4, 0)), (0, (6, 0))]) (pcN := 2355) jI_379_2353 rfl rfl rfl rfl ?_
  refine jT_xaload_n (v := (4, 1)) (pcN := 2356) jI_379_2355 rfl rfl rfl ?_
  refine jT_xaload_n (v := (6, 0)) (pcN := 2357) jI_379_2356 rfl rfl rfl ?_
  refine jT_xiload (v := (0, 0)) (pcN := 2359) jI_379_2357 rfl rfl rfl ?_
  refine jT_xiconst (k := 1) (pcN := 2360) jI_379_2359 rfl ?_
  refine jT_xiadd (x := 0) (y := 1) (z := 1) (pcN := 2361) jI_379_2360 rfl (by decide) rfl ?_
  refine jT_adv 1 (pcN := 2362) (LN := [(6, (0, 1)), (5, (0, 0)), (4, (4, 3)), (3, (4, 2)), (2, (4, 1)), (1, (4, 0)), (0, (6, 0))]) (stN := [(0, x1), (4, 1)]) (hsN := jpA_1923) (c1 := 0) (s1 := 0) (c2 := 0) (s2 := 0) (by exact rfl) ?_ (by omega) (by omega)
  refine jT_eq (LN := [(6, (0, 1)), (5, (0, 0)), (4, (4, 3)), (3, (4, 2)), (2, (4, 1)), (1, (4, 0)), (0, (6, 0))]) (stN := [(0, 1), (4, 1)]) (hsN := [jzA_265, jzA_266, jgh, jgh, jgh, jgh, jgh, jgh, jgh, jgh, jgh, jgh, jgh, jgh, jzA_322, (100, [], jS0), jgh, jgh, jgh, jgh, jgh, jgh, jgh, jgh, jgh, jgh, jgh, jgh, jgh, jgh, jgh, (117, [], [35, 36, 37, 38]), jgh, jgh, jgh, jgh, (7, [(4, 39), (4, (-1)), (4, (-1))], []), jgh, jgh, (114, [], [40]), jgh]) (rfl) (by simp only [List.cons.injEq, Prod.mk.injEq, and_true, true_and] <;> ((try unfold jw); (try unfold jwl); omega)) (rfl) ?_
  refine jT_xaload_n (v := (6, 0)) (pcN := 2363) jI_379_2362 rfl rfl rfl ?_
  refine jT_xiload (v := (0, 0)) (pcN := 2365) jI_379_2363 rfl rfl rfl ?_
  refine jT_xiconst (k := 2) (pcN := 2366) jI_379_2365 rfl ?_
  refine jT_xiadd (x := 0) (y := 2) (z := 2) (pcN := 2367) jI_379_2366 rfl (by decide) rfl ?_
  refine jT_adv 1 (pcN := 2368) (LN := [(6, (0, 1)), (5, (0, 0)), (4, (4, 3)), (3, (4, 2)), (2, (4, 1)), (1, (4, 0)), (0, (6, 0))]) (stN := [(0, x2), (0, 1), (4, 1)]) (hsN := jpA_1923) (c1 := 0) (s1 := 0) (c2 := 0) (s2 := 0) (by exact rfl) ?_ (by omega) (by omega)
  refine jT_xaload_n (v := (6, 0)) (pcN := 2369) jI_379_2368 rfl rfl rfl ?_
  refine jT_xiload (v := (0, 0)) (pcN := 2371) jI_379_2369 rfl rfl rfl ?_
  refine jT_xiconst (k := 3) (pcN := 2372) jI_379_2371 rfl ?_
  refine jT_xiadd (x := 0) (y := 3) (z := 3) (pcN := 2373) jI_379_2372 rfl (by decide) rfl ?_
  refine jT_adv 1 (pcN := 2374) (LN := [(6, (0, 1)), (5, (0, 0)), (4, (4, 3)), (3, (4, 2)), (2, (4, 1)), (1, (4, 0)), (0, (6, 0))]) (stN := [(0, x3), (0, x2), (0, 1), (4, 1)]) (hsN := jpA_1923) (c1 := 0) (s1 := 0) (c2 := 0) (s2 := 0) (by exact rfl) ?_ (by omega) (by omega)
  refine jT_ifF (a := x3) (t := 2381) (by rfl) (by rfl) (by rfl) (jw_idd (by omega) (by omega)) (by simp only [jcP] <;> omega) ?_
  refine jT_xiconst (k := 1) (pcN := 2378) jI_379_2377 rfl ?_
  refine jT_xgoto (pcN := 2382) jI_379_2378 rfl ?_
  refine jT_fB [1, 15, 16, 17, 18, 19, 20, 21, 22, 23, 24, 25, 26, 27, 28, 29] 41 (y := 279) (pcN := 2385) (dC := 2) (bc1 := 0) (bc2 := 0) (c1 := 0) (c2 := 0) (as := [(4, 1), (0, 1), (0, x2), (0, 1)]) (asC := [(4, 0), (0, 1), (0, x2), (0, 1)]) (LN := [(6, (0, 1)), (5, (0, 0)), (4, (4, 3)), (3, (4, 2)), (2, (4, 1)), (1, (4, 0)), (0, (6, 0))]) (stN := []) (hsC := jpA_1519) (hsD := jpA_1820) (v := (0, 0)) (st2 := [(0, 0)]) (hs2 := jpA_1924) (jA_279_923 (d := 0) (by omega)) (by rfl) (by rfl) (by decide +kernel) (by rfl) (by rfl) (by omega) (by omega) (by omega) (by omega) rfl (by decide +kernel) ?_
  refine jT_xistore (v := (0, 0)) (LN := [(7, (0, 0)), (6, (0, 1)), (5, (0, 0)), (4, (4, 3)), (3, (4, 2)), (2, (4, 1)), (1, (4, 0)), (0, (6, 0))]) (pcN := 2387) jI_379_2385 rfl rfl rfl rfl ?_
  refine jT_xaload_n (v := (4, 1)) (pcN := 2388) jI_379_2387 rfl rfl rfl ?_
  refine jT_fR [1, 15, 16, 17, 18, 19, 20, 21, 22, 23, 24, 25, 26, 27, 28, 29] 41 (y := 186) (pcN := 2391) (dC := 0) (bc1 := 0) (bc2 := 0) (c1 := 0) (c2 := 0) (as := [(4, 1)]) (asC := [(4, 0)]) (LN := [(7, (0, 0)), (6, (0, 1)), (5, (0, 0)), (4, (4, 3)), (3, (4, 2)), (2, (4, 1)), (1, (4, 0)), (0, (6, 0))]) (stN := []) (hsC := jpA_20) (v := (0, 1)) (st2 := [(0, 1)]) (jA_186_8 (d := 0)) (by rfl) (by rfl) (by decide +kernel) (by rfl) (by rfl) (by omega) (by omega) (by omega) (by omega) rfl ?_
  refine jT_xiload (v := (0, 1)) (pcN := 2393) jI_379_2391 rfl rfl rfl ?_
  refine jT_xicT (pcN := 2398) jI_379_2393 rfl (by decide +kernel) rfl ?_
  refine jT_xiload (v := (0, 1)) (pcN := 2400) jI_379_2398 rfl rfl rfl ?_
  refine jT_xifT (pcN := 2415) jI_379_2400 rfl (by decide +kernel) rfl ?_
  refine jT_xgoto (pcN := 3740) jI_379_2415 rfl ?_
  refine jT_xiinc (x := 0) (z := 5) (LN := [(5, (0, 5)), (7, (0, 0)), (6, (0, 1)), (4, (4, 3)), (3, (4, 2)), (2, (4, 1)), (1, (4, 0)), (0, (6, 0))]) (pcN := 3743) jI_379_3740 rfl rfl (by decide) rfl rfl ?_
  refine jT_xgoto (pcN := 28) jI_379_3743 rfl ?_
  refine jT_xiload (v := (0, 5)) (pcN := 30) jI_379_28 rfl rfl rfl ?_
  refine jT_xaload_n (v := (6, 0)) (pcN := 31) jI_379_30 rfl rfl rfl ?_
  refine jT_adv 1 (pcN := 32) (LN := [(5, (0, 5)), (7, (0, 0)), (6, (0, 1)), (4, (4, 3)), (3, (4, 2)), (2, (4, 1)), (1, (4, 0)), (0, (6, 0))]) (stN := [(0, 5), (0, 5)]) (hsN := jpA_1924) (c1 := 0) (s1 := 0) (c2 := 0) (s2 := 0) (by exact rfl) ?_ (by omega) (by omega)
  refine jT_xiconst (k := 5) (pcN := 33) jI_379_32 rfl ?_
  refine jT_xisub (x := 5) (y := 5) (z := 0) (pcN := 34) jI_379_33 rfl (by decide) rfl ?_
  refine jT_xicT (pcN := 3746) jI_379_34 rfl (by decide +kernel) rfl ?_
  refine jT_xiconst (k := 1) (pcN := 3747) jI_379_3746 rfl ?_
  exact jT_ret rfl (by decide) (by show 41 ≤ 41; decide) (by omega) (by omega) ⟨rfl, rfl⟩
def jpA_3706 : List JC := [jzA_265, jzA_266, (101, [], [0]), jgh, (8, [(4, 30), (4, 31)], []), jgh, jgh, jgh, jgh, jgh, jgh, jgh, jgh, jgh, jzA_721, (100, [], jS0), jgh, jgh, jgh, jgh, (130, [], [37, 38, 39, 40, 41, 42]), (101, [], [0, 0, 0, 0, 0, 0]), jgh, jgh, jgh, jgh, jgh, jgh, jgh, jgh, jgh, jgh, jgh, (117, [], [43, 44, 45, 46]), jgh, jgh, jgh, (100, [], (jenc (jlg 0))), jgh, jgh, jgh, jgh, jgh, jgh, (7, [(4, 47), (4, (-1)), (4, (-1))], []), jgh, jgh, (114, [], [48]), (4, [(4, 49), (1, 1)], []), (101, [], [0, 0, 0, 0, 0, 0])]
def jpA_3707 : List JC := [jzA_265, jzA_266, (101, [], [1200]), jgh, (8, [(4, 30), (4, 31)], []), jgh, jgh, jgh, jgh, jgh, jgh, jgh, jgh, jgh, jzA_721, (100, [], jS0), jgh, jgh, jgh, jgh, (130, [], [37, 38, 39, 40, 41, 42]), (101, [], [0, 0, 0, 0, 0, 0]), jgh, jgh, jgh, jgh, jgh, jgh, jgh, jgh, jgh, jgh, jgh, (117, [], [43, 44, 45, 46]), jgh, jgh, jgh, (100, [], (jenc (jlg 0))), jgh, jgh, jgh, jgh, jgh, jgh, (7, [(4, 47), (4, 50), (4, (-1))], []), jgh, jgh, (114, [], [48]), (4, [(4, 49), (1, 1)], []), (101, [], [0, 0, 0, 0, 0, 0]), (114, [], [54]), (101, [], [0, 0, 0, 0, 0, 0]), (4, [(4, 51), (1, 1)], []), (101, [], [1, 0, 0, 0, 0, 0]), (4, [(4, 53), (1, 1)], [])]
def jpA_3708 : List JC := [jzA_265, jzA_266, (101, [], [1200]), jgh, (8, [(4, 30), (4, 31)], []), jgh, jgh, jgh, jgh, jgh, jgh, jgh, jgh, jgh, jzA_721, (100, [], jS0), jgh, jgh, jgh, jgh, (130, [], [37, 38, 39, 40, 41, 42]), (101, [], [1, 0, 0, 0, 0, 0]), jgh, jgh, jgh, jgh, jgh, jgh, jgh, jgh, jgh, jgh, jgh, (117, [], [43, 44, 45, 46]), jgh, jgh, jgh, (100, [], (jenc (jlg 0))), jgh, jgh, jgh, jgh, jgh, jgh, (7, [(4, 47), (4, 50), (4, (-1))], []), jgh, jgh, (114, [], [48]), (4, [(4, 49), (1, 1)], []), (101, [], [0, 0, 0, 0, 0, 0]), (114, [], [54]), (101, [], [0, 0, 0, 0, 0, 0]), (4, [(4, 51), (1, 1)], []), (101, [], [1, 0, 0, 0, 0, 0]), (4, [(4, 53), (1, 1)], []), (101, [], [1200, 0, 0, 0, 0, 0]), (101, [], [2401, 0, 0, 0, 0, 0]), (101, [], [1, 0, 0, 0, 0, 0]), (100, [], (jenc 0)), (100, [], (jenc 1)), (100, [], (jenc (1 * (jlg 0)))), (101, [], [(-1), 0, 0, 0, 0, 0]), (100, [], (jenc 0)), (100, [], (jenc (-1))), (100, [], (jenc ((-1) * (jlg 0))))]
set_option maxRecDepth 100000 in
theorem jL_30_5 {d : Nat} {x0 x1 x2 x3 x4 : Int} (h_x0 : (-2147483648) ≤ x0 ∧ x0 ≤ 2147483647) (h_x1 : 1 ≤ x1 ∧ x1 ≤ 1) (h_x2 : 0 ≤ x2 ∧ x2 ≤ 0) (h_x3 : (-2147483648) ≤ x3 ∧ x3 ≤ (-1)) (h_x4 : (-2147483648) ≤ x4 ∧ x4 ≤ 2147483647) : jT [x0, x1, x2, x3, x4] (d + 9) 379 50 2322 [(5, (0, 0)), (4, (4, 3)), (3, (4, 2)), (2, (4, 1)), (1, (4, 0)), (0, (6, 0))] [] jpA_3706 15 377 (fun k v hsN => k = 0 ∧ v = (0, 1)) := by
  refine jT_xaload_n (v := (4, 0)) (pcN := 2323) jI_379_2322 rfl rfl rfl ?_
  refine jT_xaload_n (v := (6, 0)) (pcN := 2324) jI_379_2323 rfl rfl rfl ?_
  refine jT_xiload (v := (0, 0)) (pcN := 2326) jI_379_2324 rfl rfl rfl ?_
  refine jT_xiconst (k := 1) (pcN := 2327) jI_379_2326 rfl ?_
  refine jT_xiadd (x := 0) (y := 1) (z := 1) (pcN := 2328) jI_379_2327 rfl (by decide) rfl ?_
  refine jT_adv 1 (pcN := 2329) (LN := [(5, (0, 0)), (4, (4, 3)), (3, (4, 2)), (2, (4, 1)), (1, (4, 0)), (0, (6, 0))]) (stN := [(0, x1), (4, 0)]) (hsN := jpA_3706) (c1 := 0) (s1 := 0) (c2 := 15) (s2 := 377) (by exact rfl) ?_ (by omega) (by omega)
  refine jT_eq (LN := [(5, (0, 0)), (4, (4, 3)), (3, (4, 2)), (2, (4, 1)), (1, (4, 0)), (0, (6, 0))]) (stN := [(0, 1), (4, 0)]) (hsN := [jzA_265, jzA_266, (101, [], [0]), jgh, (8, [(4, 30), (4, 31)], []), jgh, jgh, jgh, jgh, jgh, jgh, jgh, jgh, jgh, jzA_721, (100, [], jS0), jgh, jgh, jgh, jgh, (130, [], [37, 38, 39, 40, 41, 42]), (101, [], [0, 0, 0, 0, 0, 0]), jgh, jgh, jgh, jgh, jgh, jgh, jgh, jgh, jgh, jgh, jgh, (117, [], [43, 44, 45, 46]), jgh, jgh, jgh, (100, [], (jenc (jlg 0))), jgh, jgh, jgh, jgh, jgh, jgh, (7, [(4, 47), (4, (-1)), (4, (-1))], []), jgh, jgh, (114, [], [48]), (4, [(4, 49), (1, 1)], []), (101, [], [0, 0, 0, 0, 0, 0])]) (rfl) (by simp only [List.cons.injEq, Prod.mk.injEq, and_true, true_and] <;> ((try unfold jw); (try unfold jwl); omega)) (rfl) ?_
  refine jT_xaload_n (v := (6, 0)) (pcN := 2330) jI_379_2329 rfl rfl rfl ?_
  refine jT_xiload (v := (0, 0)) (pcN := 2332) jI_379_2330 rfl rfl rfl ?_
  refine jT_xiconst (k := 2) (pcN := 2333) jI_379_2332 rfl ?_
  refine jT_xiadd (x := 0) (y := 2) (z := 2) (pcN := 2334) jI_379_2333 rfl (by decide) rfl ?_
  refine jT_adv 1 (pcN := 2335) (LN := [(5, (0, 0)), (4, (4, 3)), (3, (4, 2)), (2, (4, 1)), (1, (4, 0)), (0, (6, 0))]) (stN := [(0, x2), (0, 1), (4, 0)]) (hsN := jpA_3706) (c1 := 0) (s1 := 0) (c2 := 15) (s2 := 377) (by exact rfl) ?_ (by omega) (by omega)
  refine jT_eq (LN := [(5, (0, 0)), (4, (4, 3)), (3, (4, 2)), (2, (4, 1)), (1, (4, 0)), (0, (6, 0))]) (stN := [(0, 0), (0, 1), (4, 0)]) (hsN := [jzA_265, jzA_266, (101, [], [0]), jgh, (8, [(4, 30), (4, 31)], []), jgh, jgh, jgh, jgh, jgh, jgh, jgh, jgh, jgh, jzA_721, (100, [], jS0), jgh, jgh, jgh, jgh, (130, [], [37, 38, 39, 40, 41, 42]), (101, [], [0, 0, 0, 0, 0, 0]), jgh, jgh, jgh, jgh, jgh, jgh, jgh, jgh, jgh, jgh, jgh, (117, [], [43, 44, 45, 46]), jgh, jgh, jgh, (100, [], (jenc (jlg 0))), jgh, jgh, jgh, jgh, jgh, jgh, (7, [(4, 47), (4, (-1)), (4, (-1))], []), jgh, jgh, (114, [], [48]), (4, [(4, 49), (1, 1)], []), (101, [], [0, 0, 0, 0, 0, 0])]) (rfl) (by simp only [List.cons.injEq, Prod.mk.injEq, and_true, true_and] <;> ((try unfold jw); (try unfold jwl); omega)) (rfl) ?_
  refine jT_xaload_n (v := (6, 0)) (pcN := 2336) jI_379_2335 rfl rfl rfl ?_
  refine jT_xiload (v := (0, 0)) (pcN := 2338) jI_379_2336 rfl rfl rfl ?_
  refine jT_xiconst (k := 3) (pcN := 2339) jI_379_2338 rfl ?_
  refine jT_xiadd (x := 0) (y := 3) (z := 3) (pcN := 2340) jI_379_2339 rfl (by decide) rfl ?_
  refine jT_adv 1 (pcN := 2341) (LN := [(5, (0, 0)), (4, (4, 3)), (3, (4, 2)), (2, (4, 1)), (1, (4, 0)), (0, (6, 0))]) (stN := [(0, x3), (0, 0), (0, 1), (4, 0)]) (hsN := jpA_3706) (c1 := 0) (s1 := 0) (c2 := 15) (s2 := 377) (by exact rfl) ?_ (by omega) (by omega)
  refine jT_ifF (a := x3) (t := 2348) (by rfl) (by rfl) (by rfl) (jw_idd (by omega) (by omega)) (by simp only [jcP] <;> omega) ?_
  refine jT_xiconst (k := 1) (pcN := 2345) jI_379_2344 rfl ?_
  refine jT_xgoto (pcN := 2349) jI_379_2345 rfl ?_
  refine jT_xaload_n (v := (4, 2)) (pcN := 2350) jI_379_2349 rfl rfl rfl ?_
  refine jT_fB [0, 2, 4, 5, 6, 7, 8, 9, 10, 11, 12, 13, 14, 30, 31, 32, 33, 34, 35, 36, 43, 44, 45, 46, 47, 48, 49] 50 (y := 354) (pcN := 2353) (dC := 6) (bc1 := 5) (bc2 := 17) (c1 := 10) (c2 := 360) (as := [(4, 0), (0, 1), (0, 0), (0, 1), (4, 2)]) (asC := [(4, 0), (0, 1), (0, 0), (0, 1), (4, 1)]) (LN := [(5, (0, 0)), (4, (4, 3)), (3, (4, 2)), (2, (4, 1)), (1, (4, 0)), (0, (6, 0))]) (stN := []) (hsC := jpA_3639) (hsD := jpA_3641) (v := (0, 0)) (st2 := [(0, 0)]) (hs2 := jpA_3707) (jA_354_925 (d := 0)) (by rfl) (by rfl) (by decide +kernel) (by rfl) (by rfl) (by omega) (by omega) (by omega) (by omega) rfl (by decide +kernel) ?_
  refine jT_xistore (v := (0, 0)) (LN := [(6, (0, 0)), (5, (0, 0)), (4, (4, 3)), (3, (4, 2)), (2, (4, 1)), (1, (4, 0)), (0, (6, 0))]) (pcN := 2355) jI_379_2353 rfl rfl rfl rfl ?_
  refine jT_xaload_n (v := (4, 1)) (pcN := 2356) jI_379_2355 rfl rfl rfl ?_
  refine jT_xaload_n (v := (6, 0)) (pcN := 2357) jI_379_2356 rfl rfl rfl ?_
  refine jT_xiload (v := (0, 0)) (pcN := 2359) jI_379_2357 rfl rfl rfl ?_
  refine jT_xiconst (k := 1) (pcN := 2360) jI_379_2359 rfl ?_
  refine jT_xiadd (x := 0) (y := 1) (z := 1) (pcN := 2361) jI_379_2360 rfl (by decide) rfl ?_
  refine jT_adv 1 (pcN := 2362) (LN := [(6, (0, 0)), (5, (0, 0)), (4, (4, 3)), (3, (4, 2)), (2, (4, 1)), (1, (4, 0)), (0, (6, 0))]) (stN := [(0, x1), (4, 1)]) (hsN := jpA_3707) (c1 := 0) (s1 := 0) (c2 := 10) (s2 := 360) (by exact rfl) ?_ (by omega) (by omega)
  refine jT_eq (LN := [(6, (0, 0)), (5, (0, 0)), (4, (4, 3)), (3, (4, 2)), (2, (4, 1)), (1, (4, 0)), (0, (6, 0))]) (stN := [(0, 1), (4, 1)]) (hsN := [jzA_265, jzA_266, (101, [], [1200]), jgh, (8, [(4, 30), (4, 31)], []), jgh, jgh, jgh, jgh, jgh, jgh, jgh, jgh, jgh, jzA_721, (100, [], jS0), jgh, jgh, jgh, jgh, (130, [], [37, 38, 39, 40, 41, 42]), (101, [], [0, 0, 0, 0, 0, 0]), jgh, jgh, jgh, jgh, jgh, jgh, jgh, jgh, jgh, jgh, jgh, (117, [], [43, 44, 45, 46]), jgh, jgh, jgh, (100, [], (jenc (jlg 0))), jgh, jgh, jgh, jgh, jgh, jgh, (7, [(4, 47), (4, 50), (4, (-1))], []), jgh, jgh, (114, [], [48]), (4, [(4, 49), (1, 1)], []), (101, [], [0, 0, 0, 0, 0, 0]), (114, [], [54]), (101, [], [0, 0, 0, 0, 0, 0]), (4, [(4, 51), (1, 1)], []), (101, [], [1, 0, 0, 0, 0, 0]), (4, [(4, 53), (1, 1)], [])]) (rfl) (by simp only [List.cons.injEq, Prod.mk.injEq, and_true, true_and] <;> ((try unfold jw); (try unfold jwl); omega)) (rfl) ?_
  refine jT_xaload_n (v := (6, 0)) (pcN := 2363) jI_379_2362 rfl rfl rfl ?_
  refine jT_xiload (v := (0, 0)) (pcN := 2365) jI_379_2363 rfl rfl rfl ?_
  refine jT_xiconst (k := 2) (pcN := 2366) jI_379_2365 rfl ?_
  refine jT_xiadd (x := 0) (y := 2) (z := 2) (pcN := 2367) jI_379_2366 rfl (by decide) rfl ?_
  refine jT_adv 1 (pcN := 2368) (LN := [(6, (0, 0)), (5, (0, 0)), (4, (4, 3)), (3, (4, 2)), (2, (4, 1)), (1, (4, 0)), (0, (6, 0))]) (stN := [(0, x2), (0, 1), (4, 1)]) (hsN := jpA_3707) (c1 := 0) (s1 := 0) (c2 := 10) (s2 := 360) (by exact rfl) ?_ (by omega) (by omega)
  refine jT_eq (LN := [(6, (0, 0)), (5, (0, 0)), (4, (4, 3)), (3, (4, 2)), (2, (4, 1)), (1, (4, 0)), (0, (6, 0))]) (stN := [(0, 0), (0, 1), (4, 1)]) (hsN := [jzA_265, jzA_266, (101, [], [1200]), jgh, (8, [(4, 30), (4, 31)], []), jgh, jgh, jgh, jgh, jgh, jgh, jgh, jgh, jgh, jzA_721, (100, [], jS0), jgh, jgh, jgh, jgh, (130, [], [37, 38, 39, 40, 41, 42]), (101, [], [0, 0, 0, 0, 0, 0]), jgh, jgh, jgh, jgh, jgh, jgh, jgh, jgh, jgh, jgh, jgh, (117, [], [43, 44, 45, 46]), jgh, jgh, jgh, (100, [], (jenc (jlg 0))), jgh, jgh, jgh, jgh, jgh, jgh, (7, [(4, 47), (4, 50), (4, (-1))], []), jgh, jgh, (114, [], [48]), (4, [(4, 49), (1, 1)], []), (101, [], [0, 0, 0, 0, 0, 0]), (114, [], [54]), (101, [], [0, 0, 0, 0, 0, 0]), (4, [(4, 51), (1, 1)], []), (101, [], [1, 0, 0, 0, 0, 0]), (4, [(4, 53), (1, 1)], [])]) (rfl) (by simp only [List.cons.injEq, Prod.mk.injEq, and_true, true_and] <;> ((try unfold jw); (try unfold jwl); omega)) (rfl) ?_
  refine jT_xaload_n (v := (6, 0)) (pcN := 2369) jI_379_2368 rfl rfl rfl ?_
  refine jT_xiload (v := (0, 0)) (pcN := 2371) jI_379_2369 rfl rfl rfl ?_
  refine jT_xiconst (k := 3) (pcN := 2372) jI_379_2371 rfl ?_
  refine jT_xiadd (x := 0) (y := 3) (z := 3) (pcN := 2373) jI_379_2372 rfl (by decide) rfl ?_
  refine jT_adv 1 (pcN := 2374) (LN := [(6, (0, 0)), (5, (0, 0)), (4, (4, 3)), (3, (4, 2)), (2, (4, 1)), (1, (4, 0)), (0, (6, 0))]) (stN := [(0, x3), (0, 0), (0, 1), (4, 1)]) (hsN := jpA_3707) (c1 := 0) (s1 := 0) (c2 := 10) (s2 := 360) (by exact rfl) ?_ (by omega) (by omega)
  refine jT_ifF (a := x3) (t := 2381) (by rfl) (by rfl) (by rfl) (jw_idd (by omega) (by omega)) (by simp only [jcP] <;> omega) ?_
  refine jT_xiconst (k := 1) (pcN := 2378) jI_379_2377 rfl ?_
  refine jT_xgoto (pcN := 2382) jI_379_2378 rfl ?_
  refine jT_fB [1, 15, 16, 17, 18, 19, 20, 21, 22, 23, 24, 25, 26, 27, 28, 29, 37, 38, 39, 40, 41, 42] 55 (y := 279) (pcN := 2385) (dC := 8) (bc1 := 10) (bc2 := 360) (c1 := 0) (c2 := 0) (as := [(4, 1), (0, 1), (0, 0), (0, 1)]) (asC := [(4, 0), (0, 1), (0, 0), (0, 1)]) (LN := [(6, (0, 0)), (5, (0, 0)), (4, (4, 3)), (3, (4, 2)), (2, (4, 1)), (1, (4, 0)), (0, (6, 0))]) (stN := []) (hsC := jpA_1695) (hsD := jpA_3636) (v := (0, 1200)) (st2 := [(0, 1200)]) (hs2 := jpA_3708) (jA_279_928 (d := 0)) (by rfl) (by rfl) (by decide +kernel) (by rfl) (by rfl) (by omega) (by omega) (by omega) (by omega) rfl (by decide +kernel) ?_
  refine jT_xistore (v := (0, 1200)) (LN := [(7, (0, 1200)), (6, (0, 0)), (5, (0, 0)), (4, (4, 3)), (3, (4, 2)), (2, (4, 1)), (1, (4, 0)), (0, (6, 0))]) (pcN := 2387) jI_379_2385 rfl rfl rfl rfl ?_
  refine jT_xaload_n (v := (4, 1)) (pcN := 2388) jI_379_2387 rfl rfl rfl ?_
  refine jT_fR [1, 15, 16, 17, 18, 19, 20, 21, 22, 23, 24, 25, 26, 27, 28, 29] 65 (y := 186) (pcN := 2391) (dC := 0) (bc1 := 0) (bc2 := 0) (c1 := 0) (c2 := 0) (as := [(4, 1)]) (asC := [(4, 0)]) (LN := [(7, (0, 1200)), (6, (0, 0)), (5, (0, 0)), (4, (4, 3)), (3, (4, 2)), (2, (4, 1)), (1, (4, 0)), (0, (6, 0))]) (stN := []) (hsC := jpA_22) (v := (0, 0)) (st2 := [(0, 0)]) (jA_186_726 (d := 0)) (by rfl) (by rfl) (by decide +kernel) (by rfl) (by rfl) (by omega) (by omega) (by omega) (by omega) rfl ?_
  refine jT_xiload (v := (0, 0)) (pcN := 2393) jI_379_2391 rfl rfl rfl ?_
  refine jT_xicT (pcN := 2398) jI_379_2393 rfl (by decide +kernel) rfl ?_
  refine jT_xiload (v := (0, 0)) (pcN := 2400) jI_379_2398 rfl rfl rfl ?_
  refine jT_xifF (t := 2415) (pcN := 2403) jI_379_2400 rfl (by decide +kernel) rfl rfl ?_
  refine jT_xaload_n (v := (4, 2)) (pcN := 2404) jI_379_2403 rfl rfl rfl ?_
  refine jT_xiconst (k := 0) (pcN := 2405) jI_379_2404 rfl ?_
  refine jT_lald (x := 1200) (a := 2) (j := 0) (fs := []) (X := [1200]) jI_379_2405 rfl rfl rfl rfl ?_
  refine jT_eq (LN := [(7, (0, 1200)), (6, (0, 0)), (5, (0, 0)), (4, (4, 3)), (3, (4, 2)), (2, (4, 1)), (1, (4, 0)), (0, (6, 0))]) (stN := [(1, 1200)]) (hsN := jpA_3708) rfl rfl rfl ?_
  refine jT_xiload (v := (0, 1200)) (pcN := 2408) jI_379_2406 rfl rfl rfl ?_
  refine jT_xi2l (x := 1200) (z := 1200) (pcN := 2409) jI_379_2408 rfl (by decide +kernel) rfl ?_
  refine jT_lcmp (a := 1200) (b := 1200) (z := 0) (by rfl) (by rfl) (by decide +kernel) (by decide +kernel) (by decide) ?_
  refine jT_xifT (pcN := 2415) jI_379_2410 rfl (by decide +kernel) rfl ?_
  refine jT_xgoto (pcN := 3740) jI_379_2415 rfl ?_
  refine jT_xiinc (x := 0) (z := 5) (LN := [(5, (0, 5)), (7, (0, 1200)), (6, (0, 0)), (4, (4, 3)), (3, (4, 2)), (2, (4, 1)), (1, (4, 0)), (0, (6, 0))]) (pcN := 3743) jI_379_3740 rfl rfl (by decide) rfl rfl ?_
  refine jT_xgoto (pcN := 28) jI_379_3743 rfl ?_
  refine jT_xiload (v := (0, 5)) (pcN := 30) jI_379_28 rfl rfl rfl ?_
  refine jT_xaload_n (v := (6, 0)) (pcN := 31) jI_379_30 rfl rfl rfl ?_
  refine jT_adv 1 (pcN := 32) (LN := [(5, (0, 5)), (7, (0, 1200)), (6, (0, 0)), (4, (4, 3)), (3, (4, 2)), (2, (4, 1)), (1, (4, 0)), (0, (6, 0))]) (stN := [(0, 5), (0, 5)]) (hsN := jpA_3708) (c1 := 0) (s1 := 0) (c2 := 0) (s2 := 0) (by exact rfl) ?_ (by omega) (by omega)
  refine jT_xiconst (k := 5) (pcN := 33) jI_379_32 rfl ?_
  refine jT_xisub (x := 5) (y := 5) (z := 0) (pcN := 34) jI_379_33 rfl (by decide) rfl ?_
  refine jT_xicT (pcN := 3746) jI_379_34 rfl (by decide +kernel) rfl ?_
  refine jT_xiconst (k := 1) (pcN := 3747) jI_379_3746 rfl ?_
  exact jT_ret rfl (by decide) (by show 50 ≤ 65; decide) (by omega) (by omega) ⟨rfl, rfl⟩
set_option maxRecDepth 100000 in
theorem jL_30_6 {d : Nat} {x0 x1 x2 x3 x4 : Int} (h_x0 : (-2147483648) ≤ x0 ∧ x0 ≤ 2147483647) (h_x1 : 1 ≤ x1 ∧ x1 ≤ 1) (h_x2 : 1 ≤ x2 ∧ x2 ≤ 2147483647) (h_x3 : (-2147483648) ≤ x3 ∧ x3 ≤ (-1)) (h_x4 : (-2147483648) ≤ x4 ∧ x4 ≤ 2147483647) : jT [x0, x1, x2, x3, x4] (d + 3) 379 41 2322 [(5, (0, 0)), (4, (4, 3)), (3, (4, 2)), (2, (4, 1)), (1, (4, 0)), (0, (6, 0))] [] jpA_1923 1 6 (fun k v hsN => k = 0 ∧ v = (0, 1)) := by
  refine jT_xaload_n (v := (4, 0)) (pcN := 2323) jI_379_2322 rfl rfl rfl ?_
  refine jT_xaload_n (v := (6, 0)) (pcN := 2324) jI_379_2323 rfl rfl rfl ?_
  refine jT_xiload (v := (0, 0)) (pcN := 2326) jI_379_2324 rfl rfl rfl ?_
  refine jT_xiconst (k := 1) (pcN := 2327) jI_379_2326 rfl ?_
  refine jT_xiadd (x := 0) (y := 1) (z := 1) (pcN := 2328) jI_379_2327 rfl (by decide) rfl ?_
  refine jT_adv 1 (pcN := 2329) (LN := [(5, (0, 0)), (4, (4, 3)), (3, (4, 2)), (2, (4, 1)), (1, (4, 0)), (0, (6, 0))]) (stN := [(0, x1), (4, 0)]) (hsN := jpA_1923) (c1 := 0) (s1 := 0) (c2 := 1) (s2 := 6) (by exact rfl) ?_ (by omega) (by omega)
  refine jT_eq (LN := [(5, (0, 0)), (4, (4, 3)), (3, (4, 2)), (2, (4, 1)), (1, (4, 0)), (0, (6, 0))]) (stN := [(0, 1), (4, 0)]) (hsN := [jzA_265, jzA_266, jgh, jgh, jgh, jgh, jgh, jgh, jgh, jgh, jgh, jgh, jgh, jgh, jzA_322, (100, [], jS0), jgh, jgh, jgh, jgh, jgh, jgh, jgh, jgh, jgh, jgh, jgh, jgh, jgh, jgh, jgh, (117, [], [35, 36, 37, 38]), jgh, jgh, jgh, jgh, (7, [(4, 39), (4, (-1)), (4, (-1))], []), jgh, jgh, (114, [], [40]), jgh]) (rfl) (by simp only [List.cons.injEq, Prod.mk.injEq, and_true, true_and] <;> ((try unfold jw); (try unfold jwl); omega)) (rfl) ?_
  refine jT_xaload_n (v := (6, 0)) (pcN := 2330) jI_379_2329 rfl rfl rfl ?_
  refine jT_xiload (v := (0, 0)) (pcN := 2332) jI_379_2330 rfl rfl rfl ?_
  refine jT_xiconst (k := 2) (pcN := 2333) jI_379_2332 rfl ?_
  refine jT_xiadd (x := 0) (y := 2) (z := 2) (pcN := 2334) jI_379_2333 rfl (by decide) rfl ?_
  refine jT_adv 1 (pcN := 2335) (LN := [(5, (0, 0)), (4, (4, 3)), (3, (4, 2)), (2, (4, 1)), (1, (4, 0)), (0, (6, 0))]) (stN := [(0, x2), (0, 1), (4, 0)]) (hsN := jpA_1923) (c1 := 0) (s1 := 0) (c2 := 1) (s2 := 6) (by exact rfl) ?_ (by omega) (by omega)
  refine jT_xaload_n (v := (6, 0)) (pcN := 2336) jI_379_2335 rfl rfl rfl ?_
  refine jT_xiload (v := (0, 0)) (pcN := 2338) jI_379_2336 rfl rfl rfl ?_
  refine jT_xiconst (k := 3) (pcN := 2339) jI_379_2338 rfl ?_
  refine jT_xiadd (x := 0) (y := 3) (z := 3) (pcN := 2340) jI_379_2339 rfl (by decide) rfl ?_
  refine jT_adv 1 (pcN := 2341) (LN := [(5, (0, 0)), (4, (4, 3)), (3, (4, 2)), (2, (4, 1)), (1, (4, 0)), (0, (6, 0))]) (stN := [(0, x3), (0, x2), (0, 1), (4, 0)]) (hsN := jpA_1923) (c1 := 0) (s1 := 0) (c2 := 1) (s2 := 6) (by exact rfl) ?_ (by omega) (by omega)
  refine jT_ifF (a := x3) (t := 2348) (by rfl) (by rfl) (by rfl) (jw_idd (by omega) (by omega)) (by simp only [jcP] <;> omega) ?_
  refine jT_xiconst (k := 1) (pcN := 2345) jI_379_2344 rfl ?_
  refine jT_xgoto (pcN := 2349) jI_379_2345 rfl ?_
  refine jT_xaload_n (v := (4, 2)) (pcN := 2350) jI_379_2349 rfl rfl rfl ?_
  refine jT_fR [0, 2, 4, 5, 6, 7, 8, 9, 10, 11, 12, 13, 14, 30, 31, 32, 33, 34, 35, 36, 37, 38, 39, 40] 41 (y := 354) (pcN := 2353) (dC := 2) (bc1 := 1) (bc2 := 6) (c1 := 0) (c2 := 0) (as := [(4, 0), (0, 1), (0, x2), (0, 1), (4, 2)]) (asC := [(4, 0), (0, 1), (0, x2), (0, 1), (4, 1)]) (LN := [(5, (0, 0)), (4, (4, 3)), (3, (4, 2)), (2, (4, 1)), (1, (4, 0)), (0, (6, 0))]) (stN := []) (hsC := jpA_1846) (v := (0, 1)) (st2 := [(0, 1)]) (jA_354_930 (d := 0) (by omega)) (by rfl) (by rfl) (by decide +kernel) (by rfl) (by rfl) (by omega) (by omega) (by omega) (by omega) rfl ?_
  refine jT_xistore (v := (0, 1)) (LN := [(6, (0, 1)), (5, (0, 0)), (4, (4, 3)), (3, (4, 2)), (2, (4, 1)), (1, (4, 0)), (0, (6, 0))]) (pcN := 2355) jI_379_2353 rfl rfl rfl rfl ?_
  refine jT_xaload_n (v := (4, 1)) (pcN := 2356) jI_379_2355 rfl rfl rfl ?_
  refine jT_xaload_n (v := (6, 0)) (pcN := 2357) jI_379_2356 rfl rfl rfl ?_
  refine jT_xiload (v := (0, 0)) (pcN := 2359) jI_379_2357 rfl rfl rfl ?_
  refine jT_xiconst (k := 1) (pcN := 2360) jI_379_2359 rfl ?_
  refine jT_xiadd (x := 0) (y := 1) (z := 1) (pcN := 2361) jI_379_2360 rfl (by decide) rfl ?_
  refine jT_adv 1 (pcN := 2362) (LN := [(6, (0, 1)), (5, (0, 0)), (4, (4, 3)), (3, (4, 2)), (2, (4, 1)), (1, (4, 0)), (0, (6, 0))]) (stN := [(0, x1), (4, 1)]) (hsN := jpA_1923) (c1 := 0) (s1 := 0) (c2 := 0) (s2 := 0) (by exact rfl) ?_ (by omega) (by omega)
  refine jT_eq (LN := [(6, (0, 1)), (5, (0, 0)), (4, (4, 3)), (3, (4, 2)), (2, (4, 1)), (1, (4, 0)), (0, (6, 0))]) (stN := [(0, 1), (4, 1)]) (hsN := [jzA_265, jzA_266, jgh, jgh, jgh, jgh, jgh, jgh, jgh, jgh, jgh, jgh, jgh, jgh, jzA_322, (100, [], jS0), jgh, jgh, jgh, jgh, jgh, jgh, jgh, jgh, jgh, jgh, jgh, jgh, jgh, jgh, jgh, (117, [], [35, 36, 37, 38]), jgh, jgh, jgh, jgh, (7, [(4, 39), (4, (-1)), (4, (-1))], []), jgh, jgh, (114, [], [40]), jgh]) (rfl) (by simp only [List.cons.injEq, Prod.mk.injEq, and_true, true_and] <;> ((try unfold jw); (try unfold jwl); omega)) (rfl) ?_
  refine jT_xaload_n (v := (6, 0)) (pcN := 2363) jI_379_2362 rfl rfl rfl ?_
  refine jT_xiload (v := (0, 0)) (pcN := 2365) jI_379_2363 rfl rfl rfl ?_
  refine jT_xiconst (k := 2) (pcN := 2366) jI_379_2365 rfl ?_
  refine jT_xiadd (x := 0) (y := 2) (z := 2) (pcN := 2367) jI_379_2366 rfl (by decide) rfl ?_
  refine jT_adv 1 (pcN := 2368) (LN := [(6, (0, 1)), (5, (0, 0)), (4, (4, 3)), (3, (4, 2)), (2, (4, 1)), (1, (4, 0)), (0, (6, 0))]) (stN := [(0, x2), (0, 1), (4, 1)]) (hsN := jpA_1923) (c1 := 0) (s1 := 0) (c2 := 0) (s2 := 0) (by exact rfl) ?_ (by omega) (by omega)
  refine jT_xaload_n (v := (6, 0)) (pcN := 2369) jI_379_2368 rfl rfl rfl ?_
  refine jT_xiload (v := (0, 0)) (pcN := 2371) jI_379_2369 rfl rfl rfl ?_
  refine jT_xiconst (k := 3) (pcN := 2372) jI_379_2371 rfl ?_
  refine jT_xiadd (x := 0) (y := 3) (z := 3) (pcN := 2373) jI_379_2372 rfl (by decide) rfl ?_
  refine jT_adv 1 (pcN := 2374) (LN := [(6, (0, 1)), (5, (0, 0)), (4, (4, 3)), (3, (4, 2)), (2, (4, 1)), (1, (4, 0)), (0, (6, 0))]) (stN := [(0, x3), (0, x2), (0, 1), (4, 1)]) (hsN := jpA_1923) (c1 := 0) (s1 := 0) (c2 := 0) (s2 := 0) (by exact rfl) ?_ (by omega) (by omega)
  refine jT_ifF (a := x3) (t := 2381) (by rfl) (by rfl) (by rfl) (jw_idd (by omega) (by omega)) (by simp only [jcP] <;> omega) ?_
  refine jT_xiconst (k := 1) (pcN := 2378) jI_379_2377 rfl ?_
  refine jT_xgoto (pcN := 2382) jI_379_2378 rfl ?_
  refine jT_fB [1, 15, 16, 17, 18, 19, 20, 21, 22, 23, 24, 25, 26, 27, 28, 29] 41 (y := 279) (pcN := 2385) (dC := 2) (bc1 := 0) (bc2 := 0) (c1 := 0) (c2 := 0) (as := [(4, 1), (0, 1), (0, x2), (0, 1)]) (asC := [(4, 0), (0, 1), (0, x2), (0, 1)]) (LN := [(6, (0, 1)), (5, (0, 0)), (4, (4, 3)), (3, (4, 2)), (2, (4, 1)), (1, (4, 0)), (0, (6, 0))]) (stN := []) (hsC := jpA_1519) (hsD := jpA_1820) (v := (0, 0)) (st2 := [(0, 0)]) (hs2 := jpA_1924) (jA_279_931 (d := 0) (by omega)) (by rfl) (by rfl) (by decide +kernel) (by rfl) (by rfl) (by omega) (by omega) (by omega) (by omega) rfl (by decide +kernel) ?_
  refine jT_xistore (v := (0, 0)) (LN := [(7, (0, 0)), (6, (0, 1)), (5, (0, 0)), (4, (4, 3)), (3, (4, 2)), (2, (4, 1)), (1, (4, 0)), (0, (6, 0))]) (pcN := 2387) jI_379_2385 rfl rfl rfl rfl ?_
  refine jT_xaload_n (v := (4, 1)) (pcN := 2388) jI_379_2387 rfl rfl rfl ?_
  refine jT_fR [1, 15, 16, 17, 18, 19, 20, 21, 22, 23, 24, 25, 26, 27, 28, 29] 41 (y := 186) (pcN := 2391) (dC := 0) (bc1 := 0) (bc2 := 0) (c1 := 0) (c2 := 0) (as := [(4, 1)]) (asC := [(4, 0)]) (LN := [(7, (0, 0)), (6, (0, 1)), (5, (0, 0)), (4, (4, 3)), (3, (4, 2)), (2, (4, 1)), (1, (4, 0)), (0, (6, 0))]) (stN := []) (hsC := jpA_20) (v := (0, 1)) (st2 := [(0, 1)]) (jA_186_8 (d := 0)) (by rfl) (by rfl) (by decide +kernel) (by rfl) (by rfl) (by omega) (by omega) (by omega) (by omega) rfl ?_
  refine jT_xiload (v := (0, 1)) (pcN := 2393) jI_379_2391 rfl rfl rfl ?_
  refine jT_xicT (pcN := 2398) jI_379_2393 rfl (by decide +kernel) rfl ?_
  refine jT_xiload (v := (0, 1)) (pcN := 2400) jI_379_2398 rfl rfl rfl ?_
  refine jT_xifT (pcN := 2415) jI_379_2400 rfl (by decide +kernel) rfl ?_
  refine jT_xgoto (pcN := 3740) jI_379_2415 rfl ?_
  refine jT_xiinc (x := 0) (z := 5) (LN := [(5, (0, 5)), (7, (0, 0)), (6, (0, 1)), (4, (4, 3)), (3, (4, 2)), (2, (4, 1)), (1, (4, 0)), (0, (6, 0))]) (pcN := 3743) jI_379_3740 rfl rfl (by decide) rfl rfl ?_
  refine jT_xgoto (pcN := 28) jI_379_3743 rfl ?_
  refine jT_xiload (v := (0, 5)) (pcN := 30) jI_379_28 rfl rfl rfl ?_
  refine jT_xaload_n (v := (6, 0)) (pcN := 31) jI_379_30 rfl rfl rfl ?_
  refine jT_adv 1 (pcN := 32) (LN := [(5, (0, 5)), (7, (0, 0)), (6, (0, 1)), (4, (4, 3)), (3, (4, 2)), (2, (4, 1)), (1, (4, 0)), (0, (6, 0))]) (stN := [(0, 5), (0, 5)]) (hsN := jpA_1924) (c1 := 0) (s1 := 0) (c2 := 0) (s2 := 0) (by exact rfl) ?_ (by omega) (by omega)
  refine jT_xiconst (k := 5) (pcN := 33) jI_379_32 rfl ?_
  refine jT_xisub (x := 5) (y := 5) (z := 0) (pcN := 34) jI_379_33 rfl (by decide) rfl ?_
  refine jT_xicT (pcN := 3746) jI_379_34 rfl (by decide +kernel) rfl ?_
  refine jT_xiconst (k := 1) (pcN := 3747) jI_379_3746 rfl ?_
  exact jT_ret rfl (by decide) (by show 41 ≤ 41; decide) (by omega) (by omega) ⟨rfl, rfl⟩
set_option maxRecDepth 100000 in
theorem jL_30_7 {d : Nat} {x0 x1 x2 x3 x4 : Int} (h_x0 : (-2147483648) ≤ x0 ∧ x0 ≤ 2147483647) (h_x1 : 2 ≤ x1 ∧ x1 ≤ 2) (h_x2 : (-2147483648) ≤ x2 ∧ x2 ≤ (-1)) (h_x3 : (-2147483648) ≤ x3 ∧ x3 ≤ (-1)) (h_x4 : (-2147483648) ≤ x4 ∧ x4 ≤ 2147483647) : jT [x0, x1, x2, x3, x4] (d + 3) 379 41 2322 [(5, (0, 0)), (4, (4, 3)), (3, (4, 2)), (2, (4, 1)), (1, (4, 0)), (0, (6, 0))] [] jpA_1928 1 6 (fun k v hsN => k = 0 ∧ v = (0, 1)) := by
  refine jT_xaload_n (v := (4, 0)) (pcN := 2323) jI_379_2322 rfl rfl rfl ?_
  refine jT_xaload_n (v := (6, 0)) (pcN := 2324) jI_379_2323 rfl rfl rfl ?_
  refine jT_xiload (v := (0, 0)) (pcN := 2326) jI_379_2324 rfl rfl rfl ?_
  refine jT_xiconst (k := 1) (pcN := 2327) jI_379_2326 rfl ?_
  refine jT_xiadd (x := 0) (y := 1) (z := 1) (pcN := 2328) jI_379_2327 rfl (by decide) rfl ?_
  refine jT_adv 1 (pcN := 2329) (LN := [(5, (0, 0)), (4, (4, 3)), (3, (4, 2)), (2, (4, 1)), (1, (4, 0)), (0, (6, 0))]) (stN := [(0, x1), (4, 0)]) (hsN := jpA_1928) (c1 := 0) (s1 := 0) (c2 := 1) (s2 := 6) (by exact rfl) ?_ (by omega) (by omega)
  refine jT_eq (LN := [(5, (0, 0)), (4, (4, 3)), (3, (4, 2)), (2, (4, 1)), (1, (4, 0)), (0, (6, 0))]) (stN := [(0, 2), (4, 0)]) (hsN := [jzA_265, jzA_266, jgh, jgh, jgh, jgh, jgh, jgh, jgh, jgh, jgh, jgh, jgh, jgh, jzA_322, (100, [], jS0), jgh, jgh, jgh, jgh, jgh, jgh, jgh, jgh, jgh, jgh, jgh, jgh, jgh, jgh, jgh, (117, [], [35, 36, 37, 38]), jgh, jgh, jgh, jgh, jgh, (7, [(4, 39), (4, (-1)), (4, (-1))], []), jgh, (114, [], [40]), jgh]) (rfl) (by simp only [List.cons.injEq, Prod.mk.injEq, and_true, true_and] <;> ((try unfold jw); (try unfold jwl); omega)) (rfl) ?_
  refine jT_xaload_n (v := (6, 0)) (pcN := 2330) jI_379_2329 rfl rfl rfl ?_
  refine jT_xiload (v := (0, 0)) (pcN := 2332) jI_379_2330 rfl rfl rfl ?_
  refine jT_xiconst (k := 2) (pcN := 2333) jI_379_2332 rfl ?_
  refine jT_xiadd (x := 0) (y := 2) (z := 2) (pcN := 2334) jI_379_2333 rfl (by decide) rfl ?_
  refine jT_adv 1 (pcN := 2335) (LN := [(5, (0, 0)), (4, (4, 3)), (3, (4, 2)), (2, (4, 1)), (1, (4, 0)), (0, (6, 0))]) (stN := [(0, x2), (0, 2), (4, 0)]) (hsN := jpA_1928) (c1 := 0) (s1 := 0) (c2 := 1) (s2 := 6) (by exact rfl) ?_ (by omega) (by omega)
  refine jT_xaload_n (v := (6, 0)) (pcN := 2336) jI_379_2335 rfl rfl rfl ?_
  refine jT_xiload (v := (0, 0)) (pcN := 2338) jI_379_2336 rfl rfl rfl ?_
  refine jT_xiconst (k := 3) (pcN := 2339) jI_379_2338 rfl ?_
  refine jT_xiadd (x := 0) (y := 3) (z := 3) (pcN := 2340) jI_379_2339 rfl (by decide) rfl ?_
  refine jT_adv 1 (pcN := 2341) (LN := [(5, (0, 0)), (4, (4, 3)), (3, (4, 2)), (2, (4, 1)), (1, (4, 0)), (0, (6, 0))]) (stN := [(0, x3), (0, x2), (0, 2), (4, 0)]) (hsN := jpA_1928) (c1 := 0) (s1 := 0) (c2 := 1) (s2 := 6) (by exact rfl) ?_ (by omega) (by omega)
  refine jT_ifF (a := x3) (t := 2348) (by rfl) (by rfl) (by rfl) (jw_idd (by omega) (by omega)) (by simp only [jcP] <;> omega) ?_
  refine jT_xiconst (k := 1) (pcN := 2345) jI_379_2344 rfl ?_
  refine jT_xgoto (pcN := 2349) jI_379_2345 rfl ?_
  refine jT_xaload_n (v := (4, 2)) (pcN := 2350) jI_379_2349 rfl rfl rfl ?_
  refine jT_fR [0, 2, 4, 5, 6, 7, 8, 9, 10, 11, 12, 13, 14, 30, 31, 32, 33, 34, 35, 36, 37, 38, 39, 40] 41 (y := 354) (pcN := 2353) (dC := 2) (bc1 := 1) (bc2 := 6) (c1 := 0) (c2 := 0) (as := [(4, 0), (0, 2), (0, x2), (0, 1), (4, 2)]) (asC := [(4, 0), (0, 2), (0, x2), (0, 1), (4, 1)]) (LN := [(5, (0, 0)), (4, (4, 3)), (3, (4, 2)), (2, (4, 1)), (1, (4, 0)), (0, (6, 0))]) (stN := []) (hsC := jpA_1859) (v := (0, 1)) (st2 := [(0, 1)]) (jA_354_933 (d := 0) (by omega)) (by rfl) (by rfl) (by decide +kernel) (by rfl) (by rfl) (by omega) (by omega) (by omega) (by omega) rfl ?_
  refine jT_xistore (v := (0, 1)) (LN := [(6, (0, 1)), (5, (0, 0)), (4, (4, 3)), (3, (4, 2)), (2, (4, 1)), (1, (4, 0)), (0, (6, 0))]) (pcN := 2355) jI_379_2353 rfl rfl rfl rfl ?_
  refine jT_xaload_n (v := (4, 1)) (pcN := 2356) jI_379_2355 rfl rfl rfl ?_
  refine jT_xaload_n (v := (6, 0)) (pcN := 2357) jI_379_2356 rfl rfl rfl ?_
  refine jT_xiload (v := (0, 0)) (pcN := 2359) jI_379_2357 rfl rfl rfl ?_
  refine jT_xiconst (k := 1) (pcN := 2360) jI_379_2359 rfl ?_
  refine jT_xiadd (x := 0) (y := 1) (z := 1) (pcN := 2361) jI_379_2360 rfl (by decide) rfl ?_
  refine jT_adv 1 (pcN := 2362) (LN := [(6, (0, 1)), (5, (0, 0)), (4, (4, 3)), (3, (4, 2)), (2, (4, 1)), (1, (4, 0)), (0, (6, 0))]) (stN := [(0, x1), (4, 1)]) (hsN := jpA_1928) (c1 := 0) (s1 := 0) (c2 := 0) (s2 := 0) (by exact rfl) ?_ (by omega) (by omega)
  refine jT_eq (LN := [(6, (0, 1)), (5, (0, 0)), (4, (4, 3)), (3, (4, 2)), (2, (4, 1)), (1, (4, 0)), (0, (6, 0))]) (stN := [(0, 2), (4, 1)]) (hsN := [jzA_265, jzA_266, jgh, jgh, jgh, jgh, jgh, jgh, jgh, jgh, jgh, jgh, jgh, jgh, jzA_322, (100, [], jS0), jgh, jgh, jgh, jgh, jgh, jgh, jgh, jgh, jgh, jgh, jgh, jgh, jgh, jgh, jgh, (117, [], [35, 36, 37, 38]), jgh, jgh, jgh, jgh, jgh, (7, [(4, 39), (4, (-1)), (4, (-1))], []), jgh, (114, [], [40]), jgh]) (rfl) (by simp only [List.cons.injEq, Prod.mk.injEq, and_true, true_and] <;> ((try unfold jw); (try unfold jwl); omega)) (rfl) ?_
  refine jT_xaload_n (v := (6, 0)) (pcN := 2363) jI_379_2362 rfl rfl rfl ?_
  refine jT_xiload (v := (0, 0)) (pcN := 2365) jI_379_2363 rfl rfl rfl ?_
  refine jT_xiconst (k := 2) (pcN := 2366) jI_379_2365 rfl ?_
  refine jT_xiadd (x := 0) (y := 2) (z := 2) (pcN := 2367) jI_379_2366 rfl (by decide) rfl ?_
  refine jT_adv 1 (pcN := 2368) (LN := [(6, (0, 1)), (5, (0, 0)), (4, (4, 3)), (3, (4, 2)), (2, (4, 1)), (1, (4, 0)), (0, (6, 0))]) (stN := [(0, x2), (0, 2), (4, 1)]) (hsN := jpA_1928) (c1 := 0) (s1 := 0) (c2 := 0) (s2 := 0) (by exact rfl) ?_ (by omega) (by omega)
  refine jT_xaload_n (v := (6, 0)) (pcN := 2369) jI_379_2368 rfl rfl rfl ?_
  refine jT_xiload (v := (0, 0)) (pcN := 2371) jI_379_2369 rfl rfl rfl ?_
  refine jT_xiconst (k := 3) (pcN := 2372) jI_379_2371 rfl ?_
  refine jT_xiadd (x := 0) (y := 3) (z := 3) (pcN := 2373) jI_379_2372 rfl (by decide) rfl ?_
  refine jT_adv 1 (pcN := 2374) (LN := [(6, (0, 1)), (5, (0, 0)), (4, (4, 3)), (3, (4, 2)), (2, (4, 1)), (1, (4, 0)), (0, (6, 0))]) (stN := [(0, x3), (0, x2), (0, 2), (4, 1)]) (hsN := jpA_1928) (c1 := 0) (s1 := 0) (c2 := 0) (s2 := 0) (by exact rfl) ?_ (by omega) (by omega)
  refine jT_ifF (a := x3) (t := 2381) (by rfl) (by rfl) (by rfl) (jw_idd (by omega) (by omega)) (by simp only [jcP] <;> omega) ?_
  refine jT_xiconst (k := 1) (pcN := 2378) jI_379_2377 rfl ?_
  refine jT_xgoto (pcN := 2382) jI_379_2378 rfl ?_
  refine jT_fB [1, 15, 16, 17, 18, 19, 20, 21, 22, 23, 24, 25, 26, 27, 28, 29] 41 (y := 279) (pcN := 2385) (dC := 2) (bc1 := 0) (bc2 := 0) (c1 := 0) (c2 := 0) (as := [(4, 1), (0, 2), (0, x2), (0, 1)]) (asC := [(4, 0), (0, 2), (0, x2), (0, 1)]) (LN := [(6, (0, 1)), (5, (0, 0)), (4, (4, 3)), (3, (4, 2)), (2, (4, 1)), (1, (4, 0)), (0, (6, 0))]) (stN := []) (hsC := jpA_1519) (hsD := jpA_1820) (v := (0, 0)) (st2 := [(0, 0)]) (hs2 := jpA_1929) (jA_279_934 (d := 0) (by omega)) (by rfl) (by rfl) (by decide +kernel) (by rfl) (by rfl) (by omega) (by omega) (by omega) (by omega) rfl (by decide +kernel) ?_
  refine jT_xistore (v := (0, 0)) (LN := [(7, (0, 0)), (6, (0, 1)), (5, (0, 0)), (4, (4, 3)), (3, (4, 2)), (2, (4, 1)), (1, (4, 0)), (0, (6, 0))]) (pcN := 2387) jI_379_2385 rfl rfl rfl rfl ?_
  refine jT_xaload_n (v := (4, 1)) (pcN := 2388) jI_379_2387 rfl rfl rfl ?_
  refine jT_fR [1, 15, 16, 17, 18, 19, 20, 21, 22, 23, 24, 25, 26, 27, 28, 29] 41 (y := 186) (pcN := 2391) (dC := 0) (bc1 := 0) (bc2 := 0) (c1 := 0) (c2 := 0) (as := [(4, 1)]) (asC := [(4, 0)]) (LN := [(7, (0, 0)), (6, (0, 1)), (5, (0, 0)), (4, (4, 3)), (3, (4, 2)), (2, (4, 1)), (1, (4, 0)), (0, (6, 0))]) (stN := []) (hsC := jpA_20) (v := (0, 1)) (st2 := [(0, 1)]) (jA_186_8 (d := 0)) (by rfl) (by rfl) (by decide +kernel) (by rfl) (by rfl) (by omega) (by omega) (by omega) (by omega) rfl ?_
  refine jT_xiload (v := (0, 1)) (pcN := 2393) jI_379_2391 rfl rfl rfl ?_
  refine jT_xicT (pcN := 2398) jI_379_2393 rfl (by decide +kernel) rfl ?_
  refine jT_xiload (v := (0, 1)) (pcN := 2400) jI_379_2398 rfl rfl rfl ?_
  refine jT_xifT (pcN := 2415) jI_379_2400 rfl (by decide +kernel) rfl ?_
  refine jT_xgoto (pcN := 3740) jI_379_2415 rfl ?_
  refine jT_xiinc (x := 0) (z := 5) (LN := [(5, (0, 5)), (7, (0, 0)), (6, (0, 1)), (4, (4, 3)), (3, (4, 2)), (2, (4, 1)), (1, (4, 0)), (0, (6, 0))]) (pcN := 3743) jI_379_3740 rfl rfl (by decide) rfl rfl ?_
  refine jT_xgoto (pcN := 28) jI_379_3743 rfl ?_
  refine jT_xiload (v := (0, 5)) (pcN := 30) jI_379_28 rfl rfl rfl ?_
  refine jT_xaload_n (v := (6, 0)) (pcN := 31) jI_379_30 rfl rfl rfl ?_
  refine jT_adv 1 (pcN := 32) (LN := [(5, (0, 5)), (7, (0, 0)), (6, (0, 1)), (4, (4, 3)), (3, (4, 2)), (2, (4, 1)), (1, (4, 0)), (0, (6, 0))]) (stN := [(0, 5), (0, 5)]) (hsN := jpA_1929) (c1 := 0) (s1 := 0) (c2 := 0) (s2 := 0) (by exact rfl) ?_ (by omega) (by omega)
  refine jT_xiconst (k := 5) (pcN := 33) jI_379_32 rfl ?_
  refine jT_xisub (x := 5) (y := 5) (z := 0) (pcN := 34) jI_379_33 rfl (by decide) rfl ?_
  refine jT_xicT (pcN := 3746) jI_379_34 rfl (by decide +kernel) rfl ?_
  refine jT_xiconst (k := 1) (pcN := 3747) jI_379_3746 rfl ?_
  exact jT_ret rfl (by decide) (by show 41 ≤ 41; decide) (by omega) (by omega) ⟨rfl, rfl⟩
def jpA_3709 : List JC := [jzA_265, jzA_266, (101, [], [0]), jgh, (8, [(4, 30), (4, 31)], []), jgh, jgh, jgh, jgh, jgh, jgh, jgh, jgh, jgh, jzA_721, (100, [], jS0), jgh, jgh, jgh, jgh, (130, [], [37, 38, 39, 40, 41, 42]), (101, [], [0, 0, 0, 0, 0, 0]), jgh, jgh, jgh, jgh, jgh, jgh, jgh, jgh, jgh, jgh, jgh, (117, [], [43, 44, 45, 46]), jgh, jgh, jgh, (100, [], (jenc (jlg 0))), jgh, jgh, jgh, jgh, jgh, jgh, jgh, (7, [(4, 47), (4, (-1)), (4, (-1))], []), jgh, (114, [], [48]), (4, [(4, 49), (1, 1)], []), (101, [], [0, 0, 0, 0, 0, 0])]
def jpA_3710 : List JC := [jzA_265, jzA_266, (101, [], [1200]), jgh, (8, [(4, 30), (4, 31)], []), jgh, jgh, jgh, jgh, jgh, jgh, jgh, jgh, jgh, jzA_721, (100, [], jS0), jgh, jgh, jgh, jgh, (130, [], [37, 38, 39, 40, 41, 42]), (101, [], [0, 0, 0, 0, 0, 0]), jgh, jgh, jgh, jgh, jgh, jgh, jgh, jgh, jgh, jgh, jgh, (117, [], [43, 44, 45, 46]), jgh, jgh, jgh, (100, [], (jenc (jlg 0))), jgh, jgh, jgh, jgh, jgh, jgh, jgh, (7, [(4, 47), (4, 50), (4, (-1))], []), jgh, (114, [], [48]), (4, [(4, 49), (1, 1)], []), (101, [], [0, 0, 0, 0, 0, 0]), (114, [], [54]), (101, [], [0, 0, 0, 0, 0, 0]), (4, [(4, 51), (1, 1)], []), (101, [], [1, 0, 0, 0, 0, 0]), (4, [(4, 53), (1, 1)], [])]
def jpA_3711 : List JC := [jzA_265, jzA_266, (101, [], [1200]), jgh, (8, [(4, 30), (4, 31)], []), jgh, jgh, jgh, jgh, jgh, jgh, jgh, jgh, jgh, jzA_721, (100, [], jS0), jgh, jgh, jgh, jgh, (130, [], [37, 38, 39, 40, 41, 42]), (101, [], [1, 0, 0, 0, 0, 0]), jgh, jgh, jgh, jgh, jgh, jgh, jgh, jgh, jgh, jgh, jgh, (117, [], [43, 44, 45, 46]), jgh, jgh, jgh, (100, [], (jenc (jlg 0))), jgh, jgh, jgh, jgh, jgh, jgh, jgh, (7, [(4, 47), (4, 50), (4, (-1))], []), jgh, (114, [], [48]), (4, [(4, 49), (1, 1)], []), (101, [], [0, 0, 0, 0, 0, 0]), (114, [], [54]), (101, [], [0, 0, 0, 0, 0, 0]), (4, [(4, 51), (1, 1)], []), (101, [], [1, 0, 0, 0, 0, 0]), (4, [(4, 53), (1, 1)], []), (101, [], [1200, 0, 0, 0, 0, 0]), (101, [], [2401, 0, 0, 0, 0, 0]), (101, [], [1, 0, 0, 0, 0, 0]), (100, [], (jenc 0)), (100, [], (jenc 1)), (100, [], (jenc (1 * (jlg 0)))), (101, [], [(-1), 0, 0, 0, 0, 0]), (100, [], (jenc 0)), (100, [], (jenc (-1))), (100, [], (jenc ((-1) * (jlg 0))))]
set_option maxRecDepth 100000 in
theorem jL_30_8 {d : Nat} {x0 x1 x2 x3 x4 : Int} (h_x0 : (-2147483648) ≤ x0 ∧ x0 ≤ 2147483647) (h_x1 : 2 ≤ x1 ∧ x1 ≤ 2) (h_x2 : 0 ≤ x2 ∧ x2 ≤ 0) (h_x3 : (-2147483648) ≤ x3 ∧ x3 ≤ (-1)) (h_x4 : (-2147483648) ≤ x4 ∧ x4 ≤ 2147483647) : jT [x0, x1, x2, x3, x4] (d + 9) 379 50 2322 [(5, (0, 0)), (4, (4, 3)), (3, (4, 2)), (2, (4, 1)), (1, (4, 0)), (0, (6, 0))] [] jpA_3709 15 377 (fun k v hsN => k = 0 ∧ v = (0, 1)) := by
  refine jT_xaload_n (v := (4, 0)) (pcN := 2323) jI_379_2322 rfl rfl rfl ?_
  refine jT_xaload_n (v := (6, 0)) (pcN := 2324) jI_379_2323 rfl rfl rfl ?_
  refine jT_xiload (v := (0, 0)) (pcN := 2326) jI_379_2324 rfl rfl rfl ?_
  refine jT_xiconst (k := 1) (pcN := 2327) jI_379_2326 rfl ?_
  refine jT_xiadd (x := 0) (y := 1) (z := 1) (pcN := 2328) jI_379_2327 rfl (by decide) rfl ?_
  refine jT_adv 1 (pcN := 2329) (LN := [(5, (0, 0)), (4, (4, 3)), (3, (4, 2)), (2, (4, 1)), (1, (4, 0)), (0, (6, 0))]) (stN := [(0, x1), (4, 0)]) (hsN := jpA_3709) (c1 := 0) (s1 := 0) (c2 := 15) (s2 := 377) (by exact rfl) ?_ (by omega) (by omega)
  refine jT_eq (LN := [(5, (0, 0)), (4, (4, 3)), (3, (4, 2)), (2, (4, 1)), (1, (4, 0)), (0, (6, 0))]) (stN := [(0, 2), (4, 0)]) (hsN := [jzA_265, jzA_266, (101, [], [0]), jgh, (8, [(4, 30), (4, 31)], []), jgh, jgh, jgh, jgh, jgh, jgh, jgh, jgh, jgh, jzA_721, (100, [], jS0), jgh, jgh, jgh, jgh, (130, [], [37, 38, 39, 40, 41, 42]), (101, [], [0, 0, 0, 0, 0, 0]), jgh, jgh, jgh, jgh, jgh, jgh, jgh, jgh, jgh, jgh, jgh, (117, [], [43, 44, 45, 46]), jgh, jgh, jgh, (100, [], (jenc (jlg 0))), jgh, jgh, jgh, jgh, jgh, jgh, jgh, (7, [(4, 47), (4, (-1)), (4, (-1))], []), jgh, (114, [], [48]), (4, [(4, 49), (1, 1)], []), (101, [], [0, 0, 0, 0, 0, 0])]) (rfl) (by simp only [List.cons.injEq, Prod.mk.injEq, and_true, true_and] <;> ((try unfold jw); (try unfold jwl); omega)) (rfl) ?_
  refine jT_xaload_n (v := (6, 0)) (pcN := 2330) jI_379_2329 rfl rfl rfl ?_
  refine jT_xiload (v := (0, 0)) (pcN := 2332) jI_379_2330 rfl rfl rfl ?_
  refine jT_xiconst (k := 2) (pcN := 2333) jI_379_2332 rfl ?_
  refine jT_xiadd (x := 0) (y := 2) (z := 2) (pcN := 2334) jI_379_2333 rfl (by decide) rfl ?_
  refine jT_adv 1 (pcN := 2335) (LN := [(5, (0, 0)), (4, (4, 3)), (3, (4, 2)), (2, (4, 1)), (1, (4, 0)), (0, (6, 0))]) (stN := [(0, x2), (0, 2), (4, 0)]) (hsN := jpA_3709) (c1 := 0) (s1 := 0) (c2 := 15) (s2 := 377) (by exact rfl) ?_ (by omega) (by omega)
  refine jT_eq (LN := [(5, (0, 0)), (4, (4, 3)), (3, (4, 2)), (2, (4, 1)), (1, (4, 0)), (0, (6, 0))]) (stN := [(0, 0), (0, 2), (4, 0)]) (hsN := [jzA_265, jzA_266, (101, [], [0]), jgh, (8, [(4, 30), (4, 31)], []), jgh, jgh, jgh, jgh, jgh, jgh, jgh, jgh, jgh, jzA_721, (100, [], jS0), jgh, jgh, jgh, jgh, (130, [], [37, 38, 39, 40, 41, 42]), (101, [], [0, 0, 0, 0, 0, 0]), jgh, jgh, jgh, jgh, jgh, jgh, jgh, jgh, jgh, jgh, jgh, (117, [], [43, 44, 45, 46]), jgh, jgh, jgh, (100, [], (jenc (jlg 0))), jgh, jgh, jgh, jgh, jgh, jgh, jgh, (7, [(4, 47), (4, (-1)), (4, (-1))], []), jgh, (114, [], [48]), (4, [(4, 49), (1, 1)], []), (101, [], [0, 0, 0, 0, 0, 0])]) (rfl) (by simp only [List.cons.injEq, Prod.mk.injEq, and_true, true_and] <;> ((try unfold jw); (try unfold jwl); omega)) (rfl) ?_
  refine jT_xaload_n (v := (6, 0)) (pcN := 2336) jI_379_2335 rfl rfl rfl ?_
  refine jT_xiload (v := (0, 0)) (pcN := 2338) jI_379_2336 rfl rfl rfl ?_
  refine jT_xiconst (k := 3) (pcN := 2339) jI_379_2338 rfl ?_
  refine jT_xiadd (x := 0) (y := 3) (z := 3) (pcN := 2340) jI_379_2339 rfl (by decide) rfl ?_
  refine jT_adv 1 (pcN := 2341) (LN := [(5, (0, 0)), (4, (4, 3)), (3, (4, 2)), (2, (4, 1)), (1, (4, 0)), (0, (6, 0))]) (stN := [(0, x3), (0, 0), (0, 2), (4, 0)]) (hsN := jpA_3709) (c1 := 0) (s1 := 0) (c2 := 15) (s2 := 377) (by exact rfl) ?_ (by omega) (by omega)
  refine jT_ifF (a := x3) (t := 2348) (by rfl) (by rfl) (by rfl) (jw_idd (by omega) (by omega)) (by simp only [jcP] <;> omega) ?_
  refine jT_xiconst (k := 1) (pcN := 2345) jI_379_2344 rfl ?_
  refine jT_xgoto (pcN := 2349) jI_379_2345 rfl ?_
  refine jT_xaload_n (v := (4, 2)) (pcN := 2350) jI_379_2349 rfl rfl rfl ?_
  refine jT_fB [0, 2, 4, 5, 6, 7, 8, 9, 10, 11, 12, 13, 14, 30, 31, 32, 33, 34, 35, 36, 43, 44, 45, 46, 47, 48, 49] 50 (y := 354) (pcN := 2353) (dC := 6) (bc1 := 5) (bc2 := 17) (c1 := 10) (c2 := 360) (as := [(4, 0), (0, 2), (0, 0), (0, 1), (4, 2)]) (asC := [(4, 0), (0, 2), (0, 0), (0, 1), (4, 1)]) (LN := [(5, (0, 0)), (4, (4, 3)), (3, (4, 2)), (2, (4, 1)), (1, (4, 0)), (0, (6, 0))]) (stN := []) (hsC := jpA_3644) (hsD := jpA_3646) (v := (0, 0)) (st2 := [(0, 0)]) (hs2 := jpA_3710) (jA_354_936 (d := 0)) (by rfl) (by rfl) (by decide +kernel) (by rfl) (by rfl) (by omega) (by omega) (by omega) (by omega) rfl (by decide +kernel) ?_
  refine jT_xistore (v := (0, 0)) (LN := [(6, (0, 0)), (5, (0, 0)), (4, (4, 3)), (3, (4, 2)), (2, (4, 1)), (1, (4, 0)), (0, (6, 0))]) (pcN := 2355) jI_379_2353 rfl rfl rfl rfl ?_
  refine jT_xaload_n (v := (4, 1)) (pcN := 2356) jI_379_2355 rfl rfl rfl ?_
  refine jT_xaload_n (v := (6, 0)) (pcN := 2357) jI_379_2356 rfl rfl rfl ?_
  refine jT_xiload (v := (0, 0)) (pcN := 2359) jI_379_2357 rfl rfl rfl ?_
  refine jT_xiconst (k := 1) (pcN := 2360) jI_379_2359 rfl ?_
  refine jT_xiadd (x := 0) (y := 1) (z := 1) (pcN := 2361) jI_379_2360 rfl (by decide) rfl ?_
  refine jT_adv 1 (pcN := 2362) (LN := [(6, (0, 0)), (5, (0, 0)), (4, (4, 3)), (3, (4, 2)), (2, (4, 1)), (1, (4, 0)), (0, (6, 0))]) (stN := [(0, x1), (4, 1)]) (hsN := jpA_3710) (c1 := 0) (s1 := 0) (c2 := 10) (s2 := 360) (by exact rfl) ?_ (by omega) (by omega)
  refine jT_eq (LN := [(6, (0, 0)), (5, (0, 0)), (4, (4, 3)), (3, (4, 2)), (2, (4, 1)), (1, (4, 0)), (0, (6, 0))]) (stN := [(0, 2), (4, 1)]) (hsN := [jzA_265, jzA_266, (101, [], [1200]), jgh, (8, [(4, 30), (4, 31)], []), jgh, jgh, jgh, jgh, jgh, jgh, jgh, jgh, jgh, jzA_721, (100, [], jS0), jgh, jgh, jgh, jgh, (130, [], [37, 38, 39, 40, 41, 42]), (101, [], [0, 0, 0, 0, 0, 0]), jgh, jgh, jgh, jgh, jgh, jgh, jgh, jgh, jgh, jgh, jgh, (117, [], [43, 44, 45, 46]), jgh, jgh, jgh, (100, [], (jenc (jlg 0))), jgh, jgh, jgh, jgh, jgh, jgh, jgh, (7, [(4, 47), (4, 50), (4, (-1))], []), jgh, (114, [], [48]), (4, [(4, 49), (1, 1)], []), (101, [], [0, 0, 0, 0, 0, 0]), (114, [], [54]), (101, [], [0, 0, 0, 0, 0, 0]), (4, [(4, 51), (1, 1)], []), (101, [], [1, 0, 0, 0, 0, 0]), (4, [(4, 53), (1, 1)], [])]) (rfl) (by simp only [List.cons.injEq, Prod.mk.injEq, and_true, true_and] <;> ((try unfold jw); (try unfold jwl); omega)) (rfl) ?_
  refine jT_xaload_n (v := (6, 0)) (pcN := 2363) jI_379_2362 rfl rfl rfl ?_
  refine jT_xiload (v := (0, 0)) (pcN := 2365) jI_379_2363 rfl rfl rfl ?_
  refine jT_xiconst (k := 2) (pcN := 2366) jI_379_2365 rfl ?_
  refine jT_xiadd (x := 0) (y := 2) (z := 2) (pcN := 2367) jI_379_2366 rfl (by decide) rfl ?_
  refine jT_adv 1 (pcN := 2368) (LN := [(6, (0, 0)), (5, (0, 0)), (4, (4, 3)), (3, (4, 2)), (2, (4, 1)), (1, (4, 0)), (0, (6, 0))]) (stN := [(0, x2), (0, 2), (4, 1)]) (hsN := jpA_3710) (c1 := 0) (s1 := 0) (c2 := 10) (s2 := 360) (by exact rfl) ?_ (by omega) (by omega)
  refine jT_eq (LN := [(6, (0, 0)), (5, (0, 0)), (4, (4, 3)), (3, (4, 2)), (2, (4, 1)), (1, (4, 0)), (0, (6, 0))]) (stN := [(0, 0), (0, 2), (4, 1)]) (hsN := [jzA_265, jzA_266, (101, [], [1200]), jgh, (8, [(4, 30), (4, 31)], []), jgh, jgh, jgh, jgh, jgh, jgh, jgh, jgh, jgh, jzA_721, (100, [], jS0), jgh, jgh, jgh, jgh, (130, [], [37, 38, 39, 40, 41, 42]), (101, [], [0, 0, 0, 0, 0, 0]), jgh, jgh, jgh, jgh, jgh, jgh, jgh, jgh, jgh, jgh, jgh, (117, [], [43, 44, 45, 46]), jgh, jgh, jgh, (100, [], (jenc (jlg 0))), jgh, jgh, jgh, jgh, jgh, jgh, jgh, (7, [(4, 47), (4, 50), (4, (-1))], []), jgh, (114, [], [48]), (4, [(4, 49), (1, 1)], []), (101, [], [0, 0, 0, 0, 0, 0]), (114, [], [54]), (101, [], [0, 0, 0, 0, 0, 0]), (4, [(4, 51), (1, 1)], []), (101, [], [1, 0, 0, 0, 0, 0]), (4, [(4, 53), (1, 1)], [])]) (rfl) (by simp only [List.cons.injEq, Prod.mk.injEq, and_true, true_and] <;> ((try unfold jw); (try unfold jwl); omega)) (rfl) ?_
  refine jT_xaload_n (v := (6, 0)) (pcN := 2369) jI_379_2368 rfl rfl rfl ?_
  refine jT_xiload (v := (0, 0)) (pcN := 2371) jI_379_2369 rfl rfl rfl ?_
  refine jT_xiconst (k := 3) (pcN := 2372) jI_379_2371 rfl ?_
  refine jT_xiadd (x := 0) (y := 3) (z := 3) (pcN := 2373) jI_379_2372 rfl (by decide) rfl ?_
  refine jT_adv 1 (pcN := 2374) (LN := [(6, (0, 0)), (5, (0, 0)), (4, (4, 3)), (3, (4, 2)), (2, (4, 1)), (1, (4, 0)), (0, (6, 0))]) (stN := [(0, x3), (0, 0), (0, 2), (4, 1)]) (hsN := jpA_3710) (c1 := 0) (s1 := 0) (c2 := 10) (s2 := 360) (by exact rfl) ?_ (by omega) (by omega)
  refine jT_ifF (a := x3) (t := 2381) (by rfl) (by rfl) (by rfl) (jw_idd (by omega) (by omega)) (by simp only [jcP] <;> omega) ?_
  refine jT_xiconst (k := 1) (pcN := 2378) jI_379_2377 rfl ?_
  refine jT_xgoto (pcN := 2382) jI_379_2378 rfl ?_
  refine jT_fB [1, 15, 16, 17, 18, 19, 20, 21, 22, 23, 24, 25, 26, 27, 28, 29, 37, 38, 39, 40, 41, 42] 55 (y := 279) (pcN := 2385) (dC := 8) (bc1 := 10) (bc2 := 360) (c1 := 0) (c2 := 0) (as := [(4, 1), (0, 2), (0, 0), (0, 1)]) (asC := [(4, 0), (0, 2), (0, 0), (0, 1)]) (LN := [(6, (0, 0)), (5, (0, 0)), (4, (4, 3)), (3, (4, 2)), (2, (4, 1)), (1, (4, 0)), (0, (6, 0))]) (stN := []) (hsC := jpA_1695) (hsD := jpA_3636) (v := (0, 1200)) (st2 := [(0, 1200)]) (hs2 := jpA_3711) (jA_279_939 (d := 0)) (by rfl) (by rfl) (by decide +kernel) (by rfl) (by rfl) (by omega) (by omega) (by omega) (by omega) rfl (by decide +kernel) ?_
  refine jT_xistore (v := (0, 1200)) (LN := [(7, (0, 1200)), (6, (0, 0)), (5, (0, 0)), (4, (4, 3)), (3, (4, 2)), (2, (4, 1)), (1, (4, 0)), (0, (6, 0))]) (pcN := 2387) jI_379_2385 rfl rfl rfl rfl ?_
  refine jT_xaload_n (v := (4, 1)) (pcN := 2388) jI_379_2387 rfl rfl rfl ?_
  refine jT_fR [1, 15, 16, 17, 18, 19, 20, 21, 22, 23, 24, 25, 26, 27, 28, 29] 65 (y := 186) (pcN := 2391) (dC := 0) (bc1 := 0) (bc2 := 0) (c1 := 0) (c2 := 0) (as := [(4, 1)]) (asC := [(4, 0)]) (LN := [(7, (0, 1200)), (6, (0, 0)), (5, (0, 0)), (4, (4, 3)), (3, (4, 2)), (2, (4, 1)), (1, (4, 0)), (0, (6, 0))]) (stN := []) (hsC := jpA_22) (v := (0, 0)) (st2 := [(0, 0)]) (jA_186_726 (d := 0)) (by rfl) (by rfl) (by decide +kernel) (by rfl) (by rfl) (by omega) (by omega) (by omega) (by omega) rfl ?_
  refine jT_xiload (v := (0, 0)) (pcN := 2393) jI_379_2391 rfl rfl rfl ?_
  refine jT_xicT (pcN := 2398) jI_379_2393 rfl (by decide +kernel) rfl ?_
  refine jT_xiload (v := (0, 0)) (pcN := 2400) jI_379_2398 rfl rfl rfl ?_
  refine jT_xifF (t := 2415) (pcN := 2403) jI_379_2400 rfl (by decide +kernel) rfl rfl ?_
  refine jT_xaload_n (v := (4, 2)) (pcN := 2404) jI_379_2403 rfl rfl rfl ?_
  refine jT_xiconst (k := 0) (pcN := 2405) jI_379_2404 rfl ?_
  refine jT_lald (x := 1200) (a := 2) (j := 0) (fs := []) (X := [1200]) jI_379_2405 rfl rfl rfl rfl ?_
  refine jT_eq (LN := [(7, (0, 1200)), (6, (0, 0)), (5, (0, 0)), (4, (4, 3)), (3, (4, 2)), (2, (4, 1)), (1, (4, 0)), (0, (6, 0))]) (stN := [(1, 1200)]) (hsN := jpA_3711) rfl rfl rfl ?_
  refine jT_xiload (v := (0, 1200)) (pcN := 2408) jI_379_2406 rfl rfl rfl ?_
  refine jT_xi2l (x := 1200) (z := 1200) (pcN := 2409) jI_379_2408 rfl (by decide +kernel) rfl ?_
  refine jT_lcmp (a := 1200) (b := 1200) (z := 0) (by rfl) (by rfl) (by decide +kernel) (by decide +kernel) (by decide) ?_
  refine jT_xifT (pcN := 2415) jI_379_2410 rfl (by decide +kernel) rfl ?_
  refine jT_xgoto (pcN := 3740) jI_379_2415 rfl ?_
  refine jT_xiinc (x := 0) (z := 5) (LN := [(5, (0, 5)), (7, (0, 1200)), (6, (0, 0)), (4, (4, 3)), (3, (4, 2)), (2, (4, 1)), (1, (4, 0)), (0, (6, 0))]) (pcN := 3743) jI_379_3740 rfl rfl (by decide) rfl rfl ?_
  refine jT_xgoto (pcN := 28) jI_379_3743 rfl ?_
  refine jT_xiload (v := (0, 5)) (pcN := 30) jI_379_28 rfl rfl rfl ?_
  refine jT_xaload_n (v := (6, 0)) (pcN := 31) jI_379_30 rfl rfl rfl ?_
  refine jT_adv 1 (pcN := 32) (LN := [(5, (0, 5)), (7, (0, 1200)), (6, (0, 0)), (4, (4, 3)), (3, (4, 2)), (2, (4, 1)), (1, (4, 0)), (0, (6, 0))]) (stN := [(0, 5), (0, 5)]) (hsN := jpA_3711) (c1 := 0) (s1 := 0) (c2 := 0) (s2 := 0) (by exact rfl) ?_ (by omega) (by omega)
  refine jT_xiconst (k := 5) (pcN := 33) jI_379_32 rfl ?_
  refine jT_xisub (x := 5) (y := 5) (z := 0) (pcN := 34) jI_379_33 rfl (by decide) rfl ?_
  refine jT_xicT (pcN := 3746) jI_379_34 rfl (by decide +kernel) rfl ?_
  refine jT_xiconst (k := 1) (pcN := 3747) jI_379_3746 rfl ?_
  exact jT_ret rfl (by decide) (by show 50 ≤ 65; decide) (by omega) (by omega) ⟨rfl, rfl⟩
set_option maxRecDepth 100000 in
theorem jL_30_9 {d : Nat} {x0 x1 x2 x3 x4 : Int} (h_x0 : (-2147483648) ≤ x0 ∧ x0 ≤ 2147483647) (h_x1 : 2 ≤ x1 ∧ x1 ≤ 2) (h_x2 : 1 ≤ x2 ∧ x2 ≤ 2147483647) (h_x3 : (-2147483648) ≤ x3 ∧ x3 ≤ (-1)) (h_x4 : (-2147483648) ≤ x4 ∧ x4 ≤ 2147483647) : jT [x0, x1, x2, x3, x4] (d + 3) 379 41 2322 [(5, (0, 0)), (4, (4, 3)), (3, (4, 2)), (2, (4, 1)), (1, (4, 0)), (0, (6, 0))] [] jpA_1928 1 6 (fun k v hsN => k = 0 ∧ v = (0, 1)) := by
  refine jT_xaload_n (v := (4, 0)) (pcN := 2323) jI_379_2322 rfl rfl rfl ?_
  refine jT_xaload_n (v := (6, 0)) (pcN := 2324) jI_379_2323 rfl rfl rfl ?_
  refine jT_xiload (v := (0, 0)) (pcN := 2326) jI_379_2324 rfl rfl rfl ?_
  refine jT_xiconst (k := 1) (pcN := 2327) jI_379_2326 rfl ?_
  refine jT_xiadd (x := 0) (y := 1) (z := 1) (pcN := 2328) jI_379_2327 rfl (by decide) rfl ?_
  refine jT_adv 1 (pcN := 2329) (LN := [(5, (0, 0)), (4, (4, 3)), (3, (4, 2)), (2, (4, 1)), (1, (4, 0)), (0, (6, 0))]) (stN := [(0, x1), (4, 0)]) (hsN := jpA_1928) (c1 := 0) (s1 := 0) (c2 := 1) (s2 := 6) (by exact rfl) ?_ (by omega) (by omega)
  refine jT_eq (LN := [(5, (0, 0)), (4, (4, 3)), (3, (4, 2)), (2, (4, 1)), (1, (4, 0)), (0, (6, 0))]) (stN := [(0, 2), (4, 0)]) (hsN := [jzA_265, jzA_266, jgh, jgh, jgh, jgh, jgh, jgh, jgh, jgh, jgh, jgh, jgh, jgh, jzA_322, (100, [], jS0), jgh, jgh, jgh, jgh, jgh, jgh, jgh, jgh, jgh, jgh, jgh, jgh, jgh, jgh, jgh, (117, [], [35, 36, 37, 38]), jgh, jgh, jgh, jgh, jgh, (7, [(4, 39), (4, (-1)), (4, (-1))], []), jgh, (114, [], [40]), jgh]) (rfl) (by simp only [List.cons.injEq, Prod.mk.injEq, and_true, true_and] <;> ((try unfold jw); (try unfold jwl); omega)) (rfl) ?_
  refine jT_xaload_n (v := (6, 0)) (pcN := 2330) jI_379_2329 rfl rfl rfl ?_
  refine jT_xiload (v := (0, 0)) (pcN := 2332) jI_379_2330 rfl rfl rfl ?_
  refine jT_xiconst (k := 2) (pcN := 2333) jI_379_2332 rfl ?_
  refine jT_xiadd (x := 0) (y := 2) (z := 2) (pcN := 2334) jI_379_2333 rfl (by decide) rfl ?_
  refine jT_adv 1 (pcN := 2335) (LN := [(5, (0, 0)), (4, (4, 3)), (3, (4, 2)), (2, (4, 1)), (1, (4, 0)), (0, (6, 0))]) (stN := [(0, x2), (0, 2), (4, 0)]) (hsN := jpA_1928) (c1 := 0) (s1 := 0) (c2 := 1) (s2 := 6) (by exact rfl) ?_ (by omega) (by omega)
  refine jT_xaload_n (v := (6, 0)) (pcN := 2336) jI_379_2335 rfl rfl rfl ?_
  refine jT_xiload (v := (0, 0)) (pcN := 2338) jI_379_2336 rfl rfl rfl ?_
  refine jT_xiconst (k := 3) (pcN := 2339) jI_379_2338 rfl ?_
  refine jT_xiadd (x := 0) (y := 3) (z := 3) (pcN := 2340) jI_379_2339 rfl (by decide) rfl ?_
  refine jT_adv 1 (pcN := 2341) (LN := [(5, (0, 0)), (4, (4, 3)), (3, (4, 2)), (2, (4, 1)), (1, (4, 0)), (0, (6, 0))]) (stN := [(0, x3), (0, x2), (0, 2), (4, 0)]) (hsN := jpA_1928) (c1 := 0) (s1 := 0) (c2 := 1) (s2 := 6) (by exact rfl) ?_ (by omega) (by omega)
  refine jT_ifF (a := x3) (t := 2348) (by rfl) (by rfl) (by rfl) (jw_idd (by omega) (by omega)) (by simp only [jcP] <;> omega) ?_
  refine jT_xiconst (k := 1) (pcN := 2345) jI_379_2344 rfl ?_
  refine jT_xgoto (pcN := 2349) jI_379_2345 rfl ?_
  refine jT_xaload_n (v := (4, 2)) (pcN := 2350) jI_379_2349 rfl rfl rfl ?_
  refine jT_fR [0, 2, 4, 5, 6, 7, 8, 9, 10, 11, 12, 13, 14, 30, 31, 32, 33, 34, 35, 36, 37, 38, 39, 40] 41 (y := 354) (pcN := 2353) (dC := 2) (bc1 := 1) (bc2 := 6) (c1 := 0) (c2 := 0) (as := [(4, 0), (0, 2), (0, x2), (0, 1), (4, 2)]) (asC := [(4, 0), (0, 2), (0, x2), (0, 1), (4, 1)]) (LN := [(5, (0, 0)), (4, (4, 3)), (3, (4, 2)), (2, (4, 1)), (1, (4, 0)), (0, (6, 0))]) (stN := []) (hsC := jpA_1859) (v := (0, 1)) (st2 := [(0, 1)]) (jA_354_941 (d := 0) (by omega)) (by rfl) (by rfl) (by decide +kernel) (by rfl) (by rfl) (by omega) (by omega) (by omega) (by omega) rfl ?_
  refine jT_xistore (v := (0, 1)) (LN := [(6, (0, 1)), (5, (0, 0)), (4, (4, 3)), (3, (4, 2)), (2, (4, 1)), (1, (4, 0)), (0, (6, 0))]) (pcN := 2355) jI_379_2353 rfl rfl rfl rfl ?_
  refine jT_xaload_n (v := (4, 1)) (pcN := 2356) jI_379_2355 rfl rfl rfl ?_
  refine jT_xaload_n (v := (6, 0)) (pcN := 2357) jI_379_2356 rfl rfl rfl ?_
  refine jT_xiload (v := (0, 0)) (pcN := 2359) jI_379_2357 rfl rfl rfl ?_
  refine jT_xiconst (k := 1) (pcN := 2360) jI_379_2359 rfl ?_
  refine jT_xiadd (x := 0) (y := 1) (z := 1) (pcN := 2361) jI_379_2360 rfl (by decide) rfl ?_
  refine jT_adv 1 (pcN := 2362) (LN := [(6, (0, 1)), (5, (0, 0)), (4, (4, 3)), (3, (4, 2)), (2, (4, 1)), (1, (4, 0)), (0, (6, 0))]) (stN := [(0, x1), (4, 1)]) (hsN := jpA_1928) (c1 := 0) (s1 := 0) (c2 := 0) (s2 := 0) (by exact rfl) ?_ (by omega) (by omega)
  refine jT_eq (LN := [(6, (0, 1)), (5, (0, 0)), (4, (4, 3)), (3, (4, 2)), (2, (4, 1)), (1, (4, 0)), (0, (6, 0))]) (stN := [(0, 2), (4, 1)]) (hsN := [jzA_265, jzA_266, jgh, jgh, jgh, jgh, jgh, jgh, jgh, jgh, jgh, jgh, jgh, jgh, jzA_322, (100, [], jS0), jgh, jgh, jgh, jgh, jgh, jgh, jgh, jgh, jgh, jgh, jgh, jgh, jgh, jgh, jgh, (117, [], [35, 36, 37, 38]), jgh, jgh, jgh, jgh, jgh, (7, [(4, 39), (4, (-1)), (4, (-1))], []), jgh, (114, [], [40]), jgh]) (rfl) (by simp only [List.cons.injEq, Prod.mk.injEq, and_true, true_and] <;> ((try unfold jw); (try unfold jwl); omega)) (rfl) ?_
  refine jT_xaload_n (v := (6, 0)) (pcN := 2363) jI_379_2362 rfl rfl rfl ?_
  refine jT_xiload (v := (0, 0)) (pcN := 2365) jI_379_2363 rfl rfl rfl ?_
  refine jT_xiconst (k := 2) (pcN := 2366) jI_379_2365 rfl ?_
  refine jT_xiadd (x := 0) (y := 2) (z := 2) (pcN := 2367) jI_379_2366 rfl (by decide) rfl ?_
  refine jT_adv 1 (pcN := 2368) (LN := [(6, (0, 1)), (5, (0, 0)), (4, (4, 3)), (3, (4, 2)), (2, (4, 1)), (1, (4, 0)), (0, (6, 0))]) (stN := [(0, x2), (0, 2), (4, 1)]) (hsN := jpA_1928) (c1 := 0) (s1 := 0) (c2 := 0) (s2 := 0) (by exact rfl) ?_ (by omega) (by omega)
  refine jT_xaload_n (v := (6, 0)) (pcN := 2369) jI_379_2368 rfl rfl rfl ?_
  refine jT_xiload (v := (0, 0)) (pcN := 2371) jI_379_2369 rfl rfl rfl ?_
  refine jT_xiconst (k := 3) (pcN := 2372) jI_379_2371 rfl ?_
  refine jT_xiadd (x := 0) (y := 3) (z := 3) (pcN := 2373) jI_379_2372 rfl (by decide) rfl ?_
  refine jT_adv 1 (pcN := 2374) (LN := [(6, (0, 1)), (5, (0, 0)), (4, (4, 3)), (3, (4, 2)), (2, (4, 1)), (1, (4, 0)), (0, (6, 0))]) (stN := [(0, x3), (0, x2), (0, 2), (4, 1)]) (hsN := jpA_1928) (c1 := 0) (s1 := 0) (c2 := 0) (s2 := 0) (by exact rfl) ?_ (by omega) (by omega)
  refine jT_ifF (a := x3) (t := 2381) (by rfl) (by rfl) (by rfl) (jw_idd (by omega) (by omega)) (by simp only [jcP] <;> omega) ?_
  refine jT_xiconst (k := 1) (pcN := 2378) jI_379_2377 rfl ?_
  refine jT_xgoto (pcN := 2382) jI_379_2378 rfl ?_
  refine jT_fB [1, 15, 16, 17, 18, 19, 20, 21, 22, 23, 24, 25, 26, 27, 28, 29] 41 (y := 279) (pcN := 2385) (dC := 2) (bc1 := 0) (bc2 := 0) (c1 := 0) (c2 := 0) (as := [(4, 1), (0, 2), (0, x2), (0, 1)]) (asC := [(4, 0), (0, 2), (0, x2), (0, 1)]) (LN := [(6, (0, 1)), (5, (0, 0)), (4, (4, 3)), (3, (4, 2)), (2, (4, 1)), (1, (4, 0)), (0, (6, 0))]) (stN := []) (hsC := jpA_1519) (hsD := jpA_1820) (v := (0, 0)) (st2 := [(0, 0)]) (hs2 := jpA_1929) (jA_279_942 (d := 0) (by omega)) (by rfl) (by rfl) (by decide +kernel) (by rfl) (by rfl) (by omega) (by omega) (by omega) (by omega) rfl (by decide +kernel) ?_
  refine jT_xistore (v := (0, 0)) (LN := [(7, (0, 0)), (6, (0, 1)), (5, (0, 0)), (4, (4, 3)), (3, (4, 2)), (2, (4, 1)), (1, (4, 0)), (0, (6, 0))]) (pcN := 2387) jI_379_2385 rfl rfl rfl rfl ?_
  refine jT_xaload_n (v := (4, 1)) (pcN := 2388) jI_379_2387 rfl rfl rfl ?_
  refine jT_fR [1, 15, 16, 17, 18, 19, 20, 21, 22, 23, 24, 25, 26, 27, 28, 29] 41 (y := 186) (pcN := 2391) (dC := 0) (bc1 := 0) (bc2 := 0) (c1 := 0) (c2 := 0) (as := [(4, 1)]) (asC := [(4, 0)]) (LN := [(7, (0, 0)), (6, (0, 1)), (5, (0, 0)), (4, (4, 3)), (3, (4, 2)), (2, (4, 1)), (1, (4, 0)), (0, (6, 0))]) (stN := []) (hsC := jpA_20) (v := (0, 1)) (st2 := [(0, 1)]) (jA_186_8 (d := 0)) (by rfl) (by rfl) (by decide +kernel) (by rfl) (by rfl) (by omega) (by omega) (by omega) (by omega) rfl ?_
  refine jT_xiload (v := (0, 1)) (pcN := 2393) jI_379_2391 rfl rfl rfl ?_
  refine jT_xicT (pcN := 2398) jI_379_2393 rfl (by decide +kernel) rfl ?_
  refine jT_xiload (v := (0, 1)) (pcN := 2400) jI_379_2398 rfl rfl rfl ?_
  refine jT_xifT (pcN := 2415) jI_379_2400 rfl (by decide +kernel) rfl ?_
  refine jT_xgoto (pcN := 3740) jI_379_2415 rfl ?_
  refine jT_xiinc (x := 0) (z := 5) (LN := [(5, (0, 5)), (7, (0, 0)), (6, (0, 1)), (4, (4, 3)), (3, (4, 2)), (2, (4, 1)), (1, (4, 0)), (0, (6, 0))]) (pcN := 3743) jI_379_3740 rfl rfl (by decide) rfl rfl ?_
  refine jT_xgoto (pcN := 28) jI_379_3743 rfl ?_
  refine jT_xiload (v := (0, 5)) (pcN := 30) jI_379_28 rfl rfl rfl ?_
  refine jT_xaload_n (v := (6, 0)) (pcN := 31) jI_379_30 rfl rfl rfl ?_
  refine jT_adv 1 (pcN := 32) (LN := [(5, (0, 5)), (7, (0, 0)), (6, (0, 1)), (4, (4, 3)), (3, (4, 2)), (2, (4, 1)), (1, (4, 0)), (0, (6, 0))]) (stN := [(0, 5), (0, 5)]) (hsN := jpA_1929) (c1 := 0) (s1 := 0) (c2 := 0) (s2 := 0) (by exact rfl) ?_ (by omega) (by omega)
  refine jT_xiconst (k := 5) (pcN := 33) jI_379_32 rfl ?_
  refine jT_xisub (x := 5) (y := 5) (z := 0) (pcN := 34) jI_379_33 rfl (by decide) rfl ?_
  refine jT_xicT (pcN := 3746) jI_379_34 rfl (by decide +kernel) rfl ?_
  refine jT_xiconst (k := 1) (pcN := 3747) jI_379_3746 rfl ?_
  exact jT_ret rfl (by decide) (by show 41 ≤ 41; decide) (by omega) (by omega) ⟨rfl, rfl⟩
set_option maxRecDepth 100000 in
theorem jL_30_10 {d : Nat} {x0 x1 x2 x3 x4 : Int} (h_x0 : (-2147483648) ≤ x0 ∧ x0 ≤ 2147483647) (h_x1 : 3 ≤ x1 ∧ x1 ≤ 3) (h_x2 : (-2147483648) ≤ x2 ∧ x2 ≤ (-1)) (h_x3 : (-2147483648) ≤ x3 ∧ x3 ≤ (-1)) (h_x4 : (-2147483648) ≤ x4 ∧ x4 ≤ 2147483647) : jT [x0, x1, x2, x3, x4] (d + 3) 379 41 2322 [(5, (0, 0)), (4, (4, 3)), (3, (4, 2)), (2, (4, 1)), (1, (4, 0)), (0, (6, 0))] [] jpA_1933 1 6 (fun k v hsN => k = 0 ∧ v = (0, 1)) := by
  refine jT_xaload_n (v := (4, 0)) (pcN := 2323) jI_379_2322 rfl rfl rfl ?_
  refine jT_xaload_n (v := (6, 0)) (pcN := 2324) jI_379_2323 rfl rfl rfl ?_
  refine jT_xiload (v := (0, 0)) (pcN := 2326) jI_379_2324 rfl rfl rfl ?_
  refine jT_xiconst (k := 1) (pcN := 2327) jI_379_2326 rfl ?_
  refine jT_xiadd (x := 0) (y := 1) (z := 1) (pcN := 2328) jI_379_2327 rfl (by decide) rfl ?_
  refine jT_adv 1 (pcN := 2329) (LN := [(5, (0, 0)), (4, (4, 3)), (3, (4, 2)), (2, (4, 1)), (1, (4, 0)), (0, (6, 0))]) (stN := [(0, x1), (4, 0)]) (hsN := jpA_1933) (c1 := 0) (s1 := 0) (c2 := 1) (s2 := 6) (by exact rfl) ?_ (by omega) (by omega)
  refine jT_eq (LN := [(5, (0, 0)), (4, (4, 3)), (3, (4, 2)), (2, (4, 1)), (1, (4, 0)), (0, (6, 0))]) (stN := [(0, 3), (4, 0)]) (hsN := [jzA_265, jzA_266, jgh, jgh, jgh, jgh, jgh, jgh, jgh, jgh, jgh, jgh, jgh, jgh, jzA_322, (100, [], jS0), jgh, jgh, jgh, jgh, jgh, jgh, jgh, jgh, jgh, jgh, jgh, jgh, jgh, jgh, jgh, (117, [], [35, 36, 37, 38]), jgh, jgh, jgh, jgh, jgh, jgh, (7, [(4, 39), (4, (-1)), (4, (-1))], []), (114, [], [40]), jgh]) (rfl) (by simp only [List.cons.injEq, Prod.mk.injEq, and_true, true_and] <;> ((try unfold jw); (try unfold jwl); omega)) (rfl) ?_
  refine jT_xaload_n (v := (6, 0)) (pcN := 2330) jI_379_2329 rfl rfl rfl ?_
  refine jT_xiload (v := (0, 0)) (pcN := 2332) jI_379_2330 rfl rfl rfl ?_
  refine jT_xiconst (k := 2) (pcN := 2333) jI_379_2332 rfl ?_
  refine jT_xiadd (x := 0) (y := 2) (z := 2) (pcN := 2334) jI_379_2333 rfl (by decide) rfl ?_
  refine jT_adv 1 (pcN := 2335) (LN := [(5, (0, 0)), (4, (4, 3)), (3, (4, 2)), (2, (4, 1)), (1, (4, 0)), (0, (6, 0))]) (stN := [(0, x2), (0, 3), (4, 0)]) (hsN := jpA_1933) (c1 := 0) (s1 := 0) (c2 := 1) (s2 := 6) (by exact rfl) ?_ (by omega) (by omega)
  refine jT_xaload_n (v := (6, 0)) (pcN := 2336) jI_379_2335 rfl rfl rfl ?_
  refine jT_xiload (v := (0, 0)) (pcN := 2338) jI_379_2336 rfl rfl rfl ?_
  refine jT_xiconst (k := 3) (pcN := 2339) jI_379_2338 rfl ?_
  refine jT_xiadd (x := 0) (y := 3) (z := 3) (pcN := 2340) jI_379_2339 rfl (by decide) rfl ?_
  refine jT_adv 1 (pcN := 2341) (LN := [(5, (0, 0)), (4, (4, 3)), (3, (4, 2)), (2, (4, 1)), (1, (4, 0)), (0, (6, 0))]) (stN := [(0, x3), (0, x2), (0, 3), (4, 0)]) (hsN := jpA_1933) (c1 := 0) (s1 := 0) (c2 := 1) (s2 := 6) (by exact rfl) ?_ (by omega) (by omega)
  refine jT_ifF (a := x3) (t := 2348) (by rfl) (by rfl) (by rfl) (jw_idd (by omega) (by omega)) (by simp only [jcP] <;> omega) ?_
  refine jT_xiconst (k := 1) (pcN := 2345) jI_379_2344 rfl ?_
  refine jT_xgoto (pcN := 2349) jI_379_2345 rfl ?_
  refine jT_xaload_n (v := (4, 2)) (pcN := 2350) jI_379_2349 rfl rfl rfl ?_
  refine jT_fR [0, 2, 4, 5, 6, 7, 8, 9, 10, 11, 12, 13, 14, 30, 31, 32, 33, 34, 35, 36, 37, 38, 39, 40] 41 (y := 354) (pcN := 2353) (dC := 2) (bc1 := 1) (bc2 := 6) (c1 := 0) (c2 := 0) (as := [(4, 0), (0, 3), (0, x2), (0, 1), (4, 2)]) (asC := [(4, 0), (0, 3), (0, x2), (0, 1), (4, 1)]) (LN := [(5, (0, 0)), (4, (4, 3)), (3, (4, 2)), (2, (4, 1)), (1, (4, 0)), (0, (6, 0))]) (stN := []) (hsC := jpA_1872) (v := (0, 1)) (st2 := [(0, 1)]) (jA_354_944 (d := 0) (by omega)) (by rfl) (by rfl) (by decide +kernel) (by rfl) (by rfl) (by omega) (by omega) (by omega) (by omega) rfl ?_
  refine jT_xistore (v := (0, 1)) (LN := [(6, (0, 1)), (5, (0, 0)), (4, (4, 3)), (3, (4, 2)), (2, (4, 1)), (1, (4, 0)), (0, (6, 0))]) (pcN := 2355) jI_379_2353 rfl rfl rfl rfl ?_
  refine jT_xaload_n (v := (4, 1)) (pcN := 2356) jI_379_2355 rfl rfl rfl ?_
  refine jT_xaload_n (v := (6, 0)) (pcN := 2357) jI_379_2356 rfl rfl rfl ?_
  refine jT_xiload (v := (0, 0)) (pcN := 2359) jI_379_2357 rfl rfl rfl ?_
  refine jT_xiconst (k := 1) (pcN := 2360) jI_379_2359 rfl ?_
  refine jT_xiadd (x := 0) (y := 1) (z := 1) (pcN := 2361) jI_379_2360 rfl (by decide) rfl ?_
  refine jT_adv 1 (pcN := 2362) (LN := [(6, (0, 1)), (5, (0, 0)), (4, (4, 3)), (3, (4, 2)), (2, (4, 1)), (1, (4, 0)), (0, (6, 0))]) (stN := [(0, x1), (4, 1)]) (hsN := jpA_1933) (c1 := 0) (s1 := 0) (c2 := 0) (s2 := 0) (by exact rfl) ?_ (by omega) (by omega)
  refine jT_eq (LN := [(6, (0, 1)), (5, (0, 0)), (4, (4, 3)), (3, (4, 2)), (2, (4, 1)), (1, (4, 0)), (0, (6, 0))]) (stN := [(0, 3), (4, 1)]) (hsN := [jzA_265, jzA_266, jgh, jgh, jgh, jgh, jgh, jgh, jgh, jgh, jgh, jgh, jgh, jgh, jzA_322, (100, [], jS0), jgh, jgh, jgh, jgh, jgh, jgh, jgh, jgh, jgh, jgh, jgh, jgh, jgh, jgh, jgh, (117, [], [35, 36, 37, 38]), jgh, jgh, jgh, jgh, jgh, jgh, (7, [(4, 39), (4, (-1)), (4, (-1))], []), (114, [], [40]), jgh]) (rfl) (by simp only [List.cons.injEq, Prod.mk.injEq, and_true, true_and] <;> ((try unfold jw); (try unfold jwl); omega)) (rfl) ?_
  refine jT_xaload_n (v := (6, 0)) (pcN := 2363) jI_379_2362 rfl rfl rfl ?_
  refine jT_xiload (v := (0, 0)) (pcN := 2365) jI_379_2363 rfl rfl rfl ?_
  refine jT_xiconst (k := 2) (pcN := 2366) jI_379_2365 rfl ?_
  refine jT_xiadd (x := 0) (y := 2) (z := 2) (pcN := 2367) jI_379_2366 rfl (by decide) rfl ?_
  refine jT_adv 1 (pcN := 2368) (LN := [(6, (0, 1)), (5, (0, 0)), (4, (4, 3)), (3, (4, 2)), (2, (4, 1)), (1, (4, 0)), (0, (6, 0))]) (stN := [(0, x2), (0, 3), (4, 1)]) (hsN := jpA_1933) (c1 := 0) (s1 := 0) (c2 := 0) (s2 := 0) (by exact rfl) ?_ (by omega) (by omega)
  refine jT_xaload_n (v := (6, 0)) (pcN := 2369) jI_379_2368 rfl rfl rfl ?_
  refine jT_xiload (v := (0, 0)) (pcN := 2371) jI_379_2369 rfl rfl rfl ?_
  refine jT_xiconst (k := 3) (pcN := 2372) jI_379_2371 rfl ?_
  refine jT_xiadd (x := 0) (y := 3) (z := 3) (pcN := 2373) jI_379_2372 rfl (by decide) rfl ?_
  refine jT_adv 1 (pcN := 2374) (LN := [(6, (0, 1)), (5, (0, 0)), (4, (4, 3)), (3, (4, 2)), (2, (4, 1)), (1, (4, 0)), (0, (6, 0))]) (stN := [(0, x3), (0, x2), (0, 3), (4, 1)]) (hsN := jpA_1933) (c1 := 0) (s1 := 0) (c2 := 0) (s2 := 0) (by exact rfl) ?_ (by omega) (by omega)
  refine jT_ifF (a := x3) (t := 2381) (by rfl) (by rfl) (by rfl) (jw_idd (by omega) (by omega)) (by simp only [jcP] <;> omega) ?_
  refine jT_xiconst (k := 1) (pcN := 2378) jI_379_2377 rfl ?_
  refine jT_xgoto (pcN := 2382) jI_379_2378 rfl ?_
  refine jT_fB [1, 15, 16, 17, 18, 19, 20, 21, 22, 23, 24, 25, 26, 27, 28, 29] 41 (y := 279) (pcN := 2385) (dC := 2) (bc1 := 0) (bc2 := 0) (c1 := 0) (c2 := 0) (as := [(4, 1), (0, 3), (0, x2), (0, 1)]) (asC := [(4, 0), (0, 3), (0, x2), (0, 1)]) (LN := [(6, (0, 1)), (5, (0, 0)), (4, (4, 3)), (3, (4, 2)), (2, (4, 1)), (1, (4, 0)), (0, (6, 0))]) (stN := []) (hsC := jpA_1519) (hsD := jpA_1820) (v := (0, 0)) (st2 := [(0, 0)]) (hs2 := jpA_1934) (jA_279_945 (d := 0) (by omega)) (by rfl) (by rfl) (by decide +kernel) (by rfl) (by rfl) (by omega) (by omega) (by omega) (by omega) rfl (by decide +kernel) ?_
  refine jT_xistore (v := (0, 0)) (LN := [(7, (0, 0)), (6, (0, 1)), (5, (0, 0)), (4, (4, 3)), (3, (4, 2)), (2, (4, 1)), (1, (4, 0)), (0, (6, 0))]) (pcN := 2387) jI_379_2385 rfl rfl rfl rfl ?_
  refine jT_xaload_n (v := (4, 1)) (pcN := 2388) jI_379_2387 rfl rfl rfl ?_
  refine jT_fR [1, 15, 16, 17, 18, 19, 20, 21, 22, 23, 24, 25, 26, 27, 28, 29] 41 (y := 186) (pcN := 2391) (dC := 0) (bc1 := 0) (bc2 := 0) (c1 := 0) (c2 := 0) (as := [(4, 1)]) (asC := [(4, 0)]) (LN := [(7, (0, 0)), (6, (0, 1)), (5, (0, 0)), (4, (4, 3)), (3, (4, 2)), (2, (4, 1)), (1, (4, 0)), (0, (6, 0))]) (stN := []) (hsC := jpA_20) (v := (0, 1)) (st2 := [(0, 1)]) (jA_186_8 (d := 0)) (by rfl) (by rfl) (by decide +kernel) (by rfl) (by rfl) (by omega) (by omega) (by omega) (by omega) rfl ?_
  refine jT_xiload (v := (0, 1)) (pcN := 2393) jI_379_2391 rfl rfl rfl ?_
  refine jT_xicT (pcN := 2398) jI_379_2393 rfl (by decide +kernel) rfl ?_
  refine jT_xiload (v := (0, 1)) (pcN := 2400) jI_379_2398 rfl rfl rfl ?_
  refine jT_xifT (pcN := 2415) jI_379_2400 rfl (by decide +kernel) rfl ?_
  refine jT_xgoto (pcN := 3740) jI_379_2415 rfl ?_
  refine jT_xiinc (x := 0) (z := 5) (LN := [(5, (0, 5)), (7, (0, 0)), (6, (0, 1)), (4, (4, 3)), (3, (4, 2)), (2, (4, 1)), (1, (4, 0)), (0, (6, 0))]) (pcN := 3743) jI_379_3740 rfl rfl (by decide) rfl rfl ?_
  refine jT_xgoto (pcN := 28) jI_379_3743 rfl ?_
  refine jT_xiload (v := (0, 5)) (pcN := 30) jI_379_28 rfl rfl rfl ?_
  refine jT_xaload_n (v := (6, 0)) (pcN := 31) jI_379_30 rfl rfl rfl ?_
  refine jT_adv 1 (pcN := 32) (LN := [(5, (0, 5)), (7, (0, 0)), (6, (0, 1)), (4, (4, 3)), (3, (4, 2)), (2, (4, 1)), (1, (4, 0)), (0, (6, 0))]) (stN := [(0, 5), (0, 5)]) (hsN := jpA_1934) (c1 := 0) (s1 := 0) (c2 := 0) (s2 := 0) (by exact rfl) ?_ (by omega) (by omega)
  refine jT_xiconst (k := 5) (pcN := 33) jI_379_32 rfl ?_
  refine jT_xisub (x := 5) (y := 5) (z := 0) (pcN := 34) jI_379_33 rfl (by decide) rfl ?_
  refine jT_xicT (pcN := 3746) jI_379_34 rfl (by decide +kernel) rfl ?_
  refine jT_xiconst (k := 1) (pcN := 3747) jI_379_3746 rfl ?_
  exact jT_ret rfl (by decide) (by show 41 ≤ 41; decide) (by omega) (by omega) ⟨rfl, rfl⟩
def jpA_3712 : List JC := [jzA_265, jzA_266, (101, [], [0]), jgh, (8, [(4, 30), (4, 31)], []), jgh, jgh, jgh, jgh, jgh, jgh, jgh, jgh, jgh, jzA_721, (100, [], jS0), jgh, jgh, jgh, jgh, (130, [], [37, 38, 39, 40, 41, 42]), (101, [], [0, 0, 0, 0, 0, 0]), jgh, jgh, jgh, jgh, jgh, jgh, jgh, jgh, jgh, jgh, jgh, (117, [], [43, 44, 45, 46]), jgh, jgh, jgh, (100, [], (jenc (jlg 0))), jgh, jgh, jgh, jgh, jgh, jgh, jgh, jgh, (7, [(4, 47), (4, (-1)), (4, (-1))], []), (114, [], [48]), (4, [(4, 49), (1, 1)], []), (101, [], [0, 0, 0, 0, 0, 0])]
def jpA_3713 : List JC := [jzA_265, jzA_266, (101, [], [1200]), jgh, (8, [(4, 30), (4, 31)], []), jgh, jgh, jgh, jgh, jgh, jgh, jgh, jgh, jgh, jzA_721, (100, [], jS0), jgh, jgh, jgh, jgh, (130, [], [37, 38, 39, 40, 41, 42]), (101, [], [0, 0, 0, 0, 0, 0]), jgh, jgh, jgh, jgh, jgh, jgh, jgh, jgh, jgh, jgh, jgh, (117, [], [43, 44, 45, 46]), jgh, jgh, jgh, (100, [], (jenc (jlg 0))), jgh, jgh, jgh, jgh, jgh, jgh, jgh, jgh, (7, [(4, 47), (4, 50), (4, (-1))], []), (114, [], [48]), (4, [(4, 49), (1, 1)], []), (101, [], [0, 0, 0, 0, 0, 0]), (114, [], [54]), (101, [], [0, 0, 0, 0, 0, 0]), (4, [(4, 51), (1, 1)], []), (101, [], [1, 0, 0, 0, 0, 0]), (4, [(4, 53), (1, 1)], [])]
def jpA_3714 : List JC := [jzA_265, jzA_266, (101, [], [1200]), jgh, (8, [(4, 30), (4, 31)], []), jgh, jgh, jgh, jgh, jgh, jgh, jgh, jgh, jgh, jzA_721, (100, [], jS0), jgh, jgh, jgh, jgh, (130, [], [37, 38, 39, 40, 41, 42]), (101, [], [1, 0, 0, 0, 0, 0]), jgh, jgh, jgh, jgh, jgh, jgh, jgh, jgh, jgh, jgh, jgh, (117, [], [43, 44, 45, 46]), jgh, jgh, jgh, (100, [], (jenc (jlg 0))), jgh, jgh, jgh, jgh, jgh, jgh, jgh, jgh, (7, [(4, 47), (4, 50), (4, (-1))], []), (114, [], [48]), (4, [(4, 49), (1, 1)], []), (101, [], [0, 0, 0, 0, 0, 0]), (114, [], [54]), (101, [], [0, 0, 0, 0, 0, 0]), (4, [(4, 51), (1, 1)], []), (101, [], [1, 0, 0, 0, 0, 0]), (4, [(4, 53), (1, 1)], []), (101, [], [1200, 0, 0, 0, 0, 0]), (101, [], [2401, 0, 0, 0, 0, 0]), (101, [], [1, 0, 0, 0, 0, 0]), (100, [], (jenc 0)), (100, [], (jenc 1)), (100, [], (jenc (1 * (jlg 0)))), (101, [], [(-1), 0, 0, 0, 0, 0]), (100, [], (jenc 0)), (100, [], (jenc (-1))), (100, [], (jenc ((-1) * (jlg 0))))]
set_option maxRecDepth 100000 in
theorem jL_30_11 {d : Nat} {x0 x1 x2 x3 x4 : Int} (h_x0 : (-2147483648) ≤ x0 ∧ x0 ≤ 2147483647) (h_x1 : 3 ≤ x1 ∧ x1 ≤ 3) (h_x2 : 0 ≤ x2 ∧ x2 ≤ 0) (h_x3 : (-2147483648) ≤ x3 ∧ x3 ≤ (-1)) (h_x4 : (-2147483648) ≤ x4 ∧ x4 ≤ 2147483647) : jT [x0, x1, x2, x3, x4] (d + 9) 379 50 2322 [(5, (0, 0)), (4, (4, 3)), (3, (4, 2)), (2, (4, 1)), (1, (4, 0)), (0, (6, 0))] [] jpA_3712 15 377 (fun k v hsN => k = 0 ∧ v = (0, 1)) := by
  refine jT_xaload_n (v := (4, 0)) (pcN := 2323) jI_379_2322 rfl rfl rfl ?_
  refine jT_xaload_n (v := (6, 0)) (pcN := 2324) jI_379_2323 rfl rfl rfl ?_
  refine jT_xiload (v := (0, 0)) (pcN := 2326) jI_379_2324 rfl rfl rfl ?_
  refine jT_xiconst (k := 1) (pcN := 2327) jI_379_2326 rfl ?_
  refine jT_xiadd (x := 0) (y := 1) (z := 1) (pcN := 2328) jI_379_2327 rfl (by decide) rfl ?_
  refine jT_adv 1 (pcN := 2329) (LN := [(5, (0, 0)), (4, (4, 3)), (3, (4, 2)), (2, (4, 1)), (1, (4, 0)), (0, (6, 0))]) (stN := [(0, x1), (4, 0)]) (hsN := jpA_3712) (c1 := 0) (s1 := 0) (c2 := 15) (s2 := 377) (by exact rfl) ?_ (by omega) (by omega)
  refine jT_eq (LN := [(5, (0, 0)), (4, (4, 3)), (3, (4, 2)), (2, (4, 1)), (1, (4, 0)), (0, (6, 0))]) (stN := [(0, 3), (4, 0)]) (hsN := [jzA_265, jzA_266, (101, [], [0]), jgh, (8, [(4, 30), (4, 31)], []), jgh, jgh, jgh, jgh, jgh, jgh, jgh, jgh, jgh, jzA_721, (100, [], jS0), jgh, jgh, jgh, jgh, (130, [], [37, 38, 39, 40, 41, 42]), (101, [], [0, 0, 0, 0, 0, 0]), jgh, jgh, jgh, jgh, jgh, jgh, jgh, jgh, jgh, jgh, jgh, (117, [], [43, 44, 45, 46]), jgh, jgh, jgh, (100, [], (jenc (jlg 0))), jgh, jgh, jgh, jgh, jgh, jgh, jgh, jgh, (7, [(4, 47), (4, (-1)), (4, (-1))], []), (114, [], [48]), (4, [(4, 49), (1, 1)], []), (101, [], [0, 0, 0, 0, 0, 0])]) (rfl) (by simp only [List.cons.injEq, Prod.mk.injEq, and_true, true_and] <;> ((try unfold jw); (try unfold jwl); omega)) (rfl) ?_
  refine jT_xaload_n (v := (6, 0)) (pcN := 2330) jI_379_2329 rfl rfl rfl ?_
  refine jT_xiload (v := (0, 0)) (pcN := 2332) jI_379_2330 rfl rfl rfl ?_
  refine jT_xiconst (k := 2) (pcN := 2333) jI_379_2332 rfl ?_
  refine jT_xiadd (x := 0) (y := 2) (z := 2) (pcN := 2334) jI_379_2333 rfl (by decide) rfl ?_
  refine jT_adv 1 (pcN := 2335) (LN := [(5, (0, 0)), (4, (4, 3)), (3, (4, 2)), (2, (4, 1)), (1, (4, 0)), (0, (6, 0))]) (stN := [(0, x2), (0, 3), (4, 0)]) (hsN := jpA_3712) (c1 := 0) (s1 := 0) (c2 := 15) (s2 := 377) (by exact rfl) ?_ (by omega) (by omega)
  refine jT_eq (LN := [(5, (0, 0)), (4, (4, 3)), (3, (4, 2)), (2, (4, 1)), (1, (4, 0)), (0, (6, 0))]) (stN := [(0, 0), (0, 3), (4, 0)]) (hsN := [jzA_265, jzA_266, (101, [], [0]), jgh, (8, [(4, 30), (4, 31)], []), jgh, jgh, jgh, jgh, jgh, jgh, jgh, jgh, jgh, jzA_721, (100, [], jS0), jgh, jgh, jgh, jgh, (130, [], [37, 38, 39, 40, 41, 42]), (101, [], [0, 0, 0, 0, 0, 0]), jgh, jgh, jgh, jgh, jgh, jgh, jgh, jgh, jgh, jgh, jgh, (117, [], [43, 44, 45, 46]), jgh, jgh, jgh, (100, [], (jenc (jlg 0))), jgh, jgh, jgh, jgh, jgh, jgh, jgh, jgh, (7, [(4, 47), (4, (-1)), (4, (-1))], []), (114, [], [48]), (4, [(4, 49), (1, 1)], []), (101, [], [0, 0, 0, 0, 0, 0])]) (rfl) (by simp only [List.cons.injEq, Prod.mk.injEq, and_true, true_and] <;> ((try unfold jw); (try unfold jwl); omega)) (rfl) ?_
  refine jT_xaload_n (v := (6, 0)) (pcN := 2336) jI_379_2335 rfl rfl rfl ?_
  refine jT_xiload (v := (0, 0)) (pcN := 2338) jI_379_2336 rfl rfl rfl ?_
  refine jT_xiconst (k := 3) (pcN := 2339) jI_379_2338 rfl ?_
  refine jT_xiadd (x := 0) (y := 3) (z := 3) (pcN := 2340) jI_379_2339 rfl (by decide) rfl ?_
  refine jT_adv 1 (pcN := 2341) (LN := [(5, (0, 0)), (4, (4, 3)), (3, (4, 2)), (2, (4, 1)), (1, (4, 0)), (0, (6, 0))]) (stN := [(0, x3), (0, 0), (0, 3), (4, 0)]) (hsN := jpA_3712) (c1 := 0) (s1 := 0) (c2 := 15) (s2 := 377) (by exact rfl) ?_ (by omega) (by omega)
  refine jT_ifF (a := x3) (t := 2348) (by rfl) (by rfl) (by rfl) (jw_idd (by omega) (by omega)) (by simp only [jcP] <;> omega) ?_
  refine jT_xiconst (k := 1) (pcN := 2345) jI_379_2344 rfl ?_
  refine jT_xgoto (pcN := 2349) jI_379_2345 rfl ?_
  refine jT_xaload_n (v := (4, 2)) (pcN := 2350) jI_379_2349 rfl rfl rfl ?_
  refine jT_fB [0, 2, 4, 5, 6, 7, 8, 9, 10, 11, 12, 13, 14, 30, 31, 32, 33, 34, 35, 36, 43, 44, 45, 46, 47, 48, 49] 50 (y := 354) (pcN := 2353) (dC := 6) (bc1 := 5) (bc2 := 17) (c1 := 10) (c2 := 360) (as := [(4, 0), (0, 3), (0, 0), (0, 1), (4, 2)]) (asC := [(4, 0), (0, 3), (0, 0), (0, 1), (4, 1)]) (LN := [(5, (0, 0)), (4, (4, 3)), (3, (4, 2)), (2, (4, 1)), (1, (4, 0)), (0, (6, 0))]) (stN := []) (hsC := jpA_3649) (hsD := jpA_3651) (v := (0, 0)) (st2 := [(0, 0)]) (hs2 := jpA_3713) (jA_354_947 (d := 0)) (by rfl) (by rfl) (by decide +kernel) (by rfl) (by rfl) (by omega) (by omega) (by omega) (by omega) rfl (by decide +kernel) ?_
  refine jT_xistore (v := (0, 0)) (LN := [(6, (0, 0)), (5, (0, 0)), (4, (4, 3)), (3, (4, 2)), (2, (4, 1)), (1, (4, 0)), (0, (6, 0))]) (pcN := 2355) jI_379_2353 rfl rfl rfl rfl ?_
  refine jT_xaload_n (v := (4, 1)) (pcN := 2356) jI_379_2355 rfl rfl rfl ?_
  refine jT_xaload_n (v := (6, 0)) (pcN := 2357) jI_379_2356 rfl rfl rfl ?_
  refine jT_xiload (v := (0, 0)) (pcN := 2359) jI_379_2357 rfl rfl rfl ?_
  refine jT_xiconst (k := 1) (pcN := 2360) jI_379_2359 rfl ?_
  refine jT_xiadd (x := 0) (y := 1) (z := 1) (pcN := 2361) jI_379_2360 rfl (by decide) rfl ?_
  refine jT_adv 1 (pcN := 2362) (LN := [(6, (0, 0)), (5, (0, 0)), (4, (4, 3)), (3, (4, 2)), (2, (4, 1)), (1, (4, 0)), (0, (6, 0))]) (stN := [(0, x1), (4, 1)]) (hsN := jpA_3713) (c1 := 0) (s1 := 0) (c2 := 10) (s2 := 360) (by exact rfl) ?_ (by omega) (by omega)
  refine jT_eq (LN := [(6, (0, 0)), (5, (0, 0)), (4, (4, 3)), (3, (4, 2)), (2, (4, 1)), (1, (4, 0)), (0, (6, 0))]) (stN := [(0, 3), (4, 1)]) (hsN := [jzA_265, jzA_266, (101, [], [1200]), jgh, (8, [(4, 30), (4, 31)], []), jgh, jgh, jgh, jgh, jgh, jgh, jgh, jgh, jgh, jzA_721, (100, [], jS0), jgh, jgh, jgh, jgh, (130, [], [37, 38, 39, 40, 41, 42]), (101, [], [0, 0, 0, 0, 0, 0]), jgh, jgh, jgh, jgh, jgh, jgh, jgh, jgh, jgh, jgh, jgh, (117, [], [43, 44, 45, 46]), jgh, jgh, jgh, (100, [], (jenc (jlg 0))), jgh, jgh, jgh, jgh, jgh, jgh, jgh, jgh, (7, [(4, 47), (4, 50), (4, (-1))], []), (114, [], [48]), (4, [(4, 49), (1, 1)], []), (101, [], [0, 0, 0, 0, 0, 0]), (114, [], [54]), (101, [], [0, 0, 0, 0, 0, 0]), (4, [(4, 51), (1, 1)], []), (101, [], [1, 0, 0, 0, 0, 0]), (4, [(4, 53), (1, 1)], [])]) (rfl) (by simp only [List.cons.injEq, Prod.mk.injEq, and_true, true_and] <;> ((try unfold jw); (try unfold jwl); omega)) (rfl) ?_
  refine jT_xaload_n (v := (6, 0)) (pcN := 2363) jI_379_2362 rfl rfl rfl ?_
  refine jT_xiload (v := (0, 0)) (pcN := 2365) jI_379_2363 rfl rfl rfl ?_
  refine jT_xiconst (k := 2) (pcN := 2366) jI_379_2365 rfl ?_
  refine jT_xiadd (x := 0) (y := 2) (z := 2) (pcN := 2367) jI_379_2366 rfl (by decide) rfl ?_
  refine jT_adv 1 (pcN := 2368) (LN := [(6, (0, 0)), (5, (0, 0)), (4, (4, 3)), (3, (4, 2)), (2, (4, 1)), (1, (4, 0)), (0, (6, 0))]) (stN := [(0, x2), (0, 3), (4, 1)]) (hsN := jpA_3713) (c1 := 0) (s1 := 0) (c2 := 10) (s2 := 360) (by exact rfl) ?_ (by omega) (by omega)
  refine jT_eq (LN := [(6, (0, 0)), (5, (0, 0)), (4, (4, 3)), (3, (4, 2)), (2, (4, 1)), (1, (4, 0)), (0, (6, 0))]) (stN := [(0, 0), (0, 3), (4, 1)]) (hsN := [jzA_265, jzA_266, (101, [], [1200]), jgh, (8, [(4, 30), (4, 31)], []), jgh, jgh, jgh, jgh, jgh, jgh, jgh, jgh, jgh, jzA_721, (100, [], jS0), jgh, jgh, jgh, jgh, (130, [], [37, 38, 39, 40, 41, 42]), (101, [], [0, 0, 0, 0, 0, 0]), jgh, jgh, jgh, jgh, jgh, jgh, jgh, jgh, jgh, jgh, jgh, (117, [], [43, 44, 45, 46]), jgh, jgh, jgh, (100, [], (jenc (jlg 0))), jgh, jgh, jgh, jgh, jgh, jgh, jgh, jgh, (7, [(4, 47), (4, 50), (4, (-1))], []), (114, [], [48]), (4, [(4, 49), (1, 1)], []), (101, [], [0, 0, 0, 0, 0, 0]), (114, [], [54]), (101, [], [0, 0, 0, 0, 0, 0]), (4, [(4, 51), (1, 1)], []), (101, [], [1, 0, 0, 0, 0, 0]), (4, [(4, 53), (1, 1)], [])]) (rfl) (by simp only [List.cons.injEq, Prod.mk.injEq, and_true, true_and] <;> ((try unfold jw); (try unfold jwl); omega)) (rfl) ?_
  refine jT_xaload_n (v := (6, 0)) (pcN := 2369) jI_379_2368 rfl rfl rfl ?_
  refine jT_xiload (v := (0, 0)) (pcN := 2371) jI_379_2369 rfl rfl rfl ?_
  refine jT_xiconst (k := 3) (pcN := 2372) jI_379_2371 rfl ?_
  refine jT_xiadd (x := 0) (y := 3) (z := 3) (pcN := 2373) jI_379_2372 rfl (by decide) rfl ?_
  refine jT_adv 1 (pcN := 2374) (LN := [(6, (0, 0)), (5, (0, 0)), (4, (4, 3)), (3, (4, 2)), (2, (4, 1)), (1, (4, 0)), (0, (6, 0))]) (stN := [(0, x3), (0, 0), (0, 3), (4, 1)]) (hsN := jpA_3713) (c1 := 0) (s1 := 0) (c2 := 10) (s2 := 360) (by exact rfl) ?_ (by omega) (by omega)
  refine jT_ifF (a := x3) (t := 2381) (by rfl) (by rfl) (by rfl) (jw_idd (by omega) (by omega)) (by simp only [jcP] <;> omega) ?_
  refine jT_xiconst (k := 1) (pcN := 2378) jI_379_2377 rfl ?_
  refine jT_xgoto (pcN := 2382) jI_379_2378 rfl ?_
  refine jT_fB [1, 15, 16, 17, 18, 19, 20, 21, 22, 23, 24, 25, 26, 27, 28, 29, 37, 38, 39, 40, 41, 42] 55 (y := 279) (pcN := 2385) (dC := 8) (bc1 := 10) (bc2 := 360) (c1 := 0) (c2 := 0) (as := [(4, 1), (0, 3), (0, 0), (0, 1)]) (asC := [(4, 0), (0, 3), (0, 0), (0, 1)]) (LN := [(6, (0, 0)), (5, (0, 0)), (4, (4, 3)), (3, (4, 2)), (2, (4, 1)), (1, (4, 0)), (0, (6, 0))]) (stN := []) (hsC := jpA_1695) (hsD := jpA_3636) (v := (0, 1200)) (st2 := [(0, 1200)]) (hs2 := jpA_3714) (jA_279_950 (d := 0)) (by rfl) (by rfl) (by decide +kernel) (by rfl) (by rfl) (by omega) (by omega) (by omega) (by omega) rfl (by decide +kernel) ?_
  refine jT_xistore (v := (0, 1200)) (LN := [(7, (0, 1200)), (6, (0, 0)), (5, (0, 0)), (4, (4, 3)), (3, (4, 2)), (2, (4, 1)), (1, (4, 0)), (0, (6, 0))]) (pcN := 2387) jI_379_2385 rfl rfl rfl rfl ?_
  refine jT_xaload_n (v := (4, 1)) (pcN := 2388) jI_379_2387 rfl rfl rfl ?_
  refine jT_fR [1, 15, 16, 17, 18, 19, 20, 21, 22, 23, 24, 25, 26, 27, 28, 29] 65 (y := 186) (pcN := 2391) (dC := 0) (bc1 := 0) (bc2 := 0) (c1 := 0) (c2 := 0) (as := [(4, 1)]) (asC := [(4, 0)]) (LN := [(7, (0, 1200)), (6, (0, 0)), (5, (0, 0)), (4, (4, 3)), (3, (4, 2)), (2, (4, 1)), (1, (4, 0)), (0, (6, 0))]) (stN := []) (hsC := jpA_22) (v := (0, 0)) (st2 := [(0, 0)]) (jA_186_726 (d := 0)) (by rfl) (by rfl) (by decide +kernel) (by rfl) (by rfl) (by omega) (by omega) (by omega) (by omega) rfl ?_
  refine jT_xiload (v := (0, 0)) (pcN := 2393) jI_379_2391 rfl rfl rfl ?_
  refine jT_xicT (pcN := 2398) jI_379_2393 rfl (by decide +kernel) rfl ?_
  refine jT_xiload (v := (0, 0)) (pcN := 2400) jI_379_2398 rfl rfl rfl ?_
  refine jT_xifF (t := 2415) (pcN := 2403) jI_379_2400 rfl (by decide +kernel) rfl rfl ?_
  refine jT_xaload_n (v := (4, 2)) (pcN := 2404) jI_379_2403 rfl rfl rfl ?_
  refine jT_xiconst (k := 0) (pcN := 2405) jI_379_2404 rfl ?_
  refine jT_lald (x := 1200) (a := 2) (j := 0) (fs := []) (X := [1200]) jI_379_2405 rfl rfl rfl rfl ?_
  refine jT_eq (LN := [(7, (0, 1200)), (6, (0, 0)), (5, (0, 0)), (4, (4, 3)), (3, (4, 2)), (2, (4, 1)), (1, (4, 0)), (0, (6, 0))]) (stN := [(1, 1200)]) (hsN := jpA_3714) rfl rfl rfl ?_
  refine jT_xiload (v := (0, 1200)) (pcN := 2408) jI_379_2406 rfl rfl rfl ?_
  refine jT_xi2l (x := 1200) (z := 1200) (pcN := 2409) jI_379_2408 rfl (by decide +kernel) rfl ?_
  refine jT_lcmp (a := 1200) (b := 1200) (z := 0) (by rfl) (by rfl) (by decide +kernel) (by decide +kernel) (by decide) ?_
  refine jT_xifT (pcN := 2415) jI_379_2410 rfl (by decide +kernel) rfl ?_
  refine jT_xgoto (pcN := 3740) jI_379_2415 rfl ?_
  refine jT_xiinc (x := 0) (z := 5) (LN := [(5, (0, 5)), (7, (0, 1200)), (6, (0, 0)), (4, (4, 3)), (3, (4, 2)), (2, (4, 1)), (1, (4, 0)), (0, (6, 0))]) (pcN := 3743) jI_379_3740 rfl rfl (by decide) rfl rfl ?_
  refine jT_xgoto (pcN := 28) jI_379_3743 rfl ?_
  refine jT_xiload (v := (0, 5)) (pcN := 30) jI_379_28 rfl rfl rfl ?_
  refine jT_xaload_n (v := (6, 0)) (pcN := 31) jI_379_30 rfl rfl rfl ?_
  refine jT_adv 1 (pcN := 32) (LN := [(5, (0, 5)), (7, (0, 1200)), (6, (0, 0)), (4, (4, 3)), (3, (4, 2)), (2, (4, 1)), (1, (4, 0)), (0, (6, 0))]) (stN := [(0, 5), (0, 5)]) (hsN := jpA_3714) (c1 := 0) (s1 := 0) (c2 := 0) (s2 := 0) (by exact rfl) ?_ (by omega) (by omega)
  refine jT_xiconst (k := 5) (pcN := 33) jI_379_32 rfl ?_
  refine jT_xisub (x := 5) (y := 5) (z := 0) (pcN := 34) jI_379_33 rfl (by decide) rfl ?_
  refine jT_xicT (pcN := 3746) jI_379_34 rfl (by decide +kernel) rfl ?_
  refine jT_xiconst (k := 1) (pcN := 3747) jI_379_3746 rfl ?_
  exact jT_ret rfl (by decide) (by show 50 ≤ 65; decide) (by omega) (by omega) ⟨rfl, rfl⟩
set_option maxRecDepth 100000 in
theorem jL_30_12 {d : Nat} {x0 x1 x2 x3 x4 : Int} (h_x0 : (-2147483648) ≤ x0 ∧ x0 ≤ 2147483647) (h_x1 : 3 ≤ x1 ∧ x1 ≤ 3) (h_x2 : 1 ≤ x2 ∧ x2 ≤ 2147483647) (h_x3 : (-2147483648) ≤ x3 ∧ x3 ≤ (-1)) (h_x4 : (-2147483648) ≤ x4 ∧ x4 ≤ 2147483647) : jT [x0, x1, x2, x3, x4] (d + 3) 379 41 2322 [(5, (0, 0)), (4, (4, 3)), (3, (4, 2)), (2, (4, 1)), (1, (4, 0)), (0, (6, 0))] [] jpA_1933 1 6 (fun k v hsN => k = 0 ∧ v = (0, 1)) := by
  refine jT_xaload_n (v := (4, 0)) (pcN := 2323) jI_379_2322 rfl rfl rfl ?_
  refine jT_xaload_n (v := (6, 0)) (pcN := 2324) jI_379_2323 rfl rfl rfl ?_
  refine jT_xiload (v := (0, 0)) (pcN := 2326) jI_379_2324 rfl rfl rfl ?_
  refine jT_xiconst (k := 1) (pcN := 2327) jI_379_2326 rfl ?_
  refine jT_xiadd (x := 0) (y := 1) (z := 1) (pcN := 2328) jI_379_2327 rfl (by decide) rfl ?_
  refine jT_adv 1 (pcN := 2329) (LN := [(5, (0, 0)), (4, (4, 3)), (3, (4, 2)), (2, (4, 1)), (1, (4, 0)), (0, (6, 0))]) (stN := [(0, x1), (4, 0)]) (hsN := jpA_1933) (c1 := 0) (s1 := 0) (c2 := 1) (s2 := 6) (by exact rfl) ?_ (by omega) (by omega)
  refine jT_eq (LN := [(5, (0, 0)), (4, (4, 3)), (3, (4, 2)), (2, (4, 1)), (1, (4, 0)), (0, (6, 0))]) (stN := [(0, 3), (4, 0)]) (hsN := [jzA_265, jzA_266, jgh, jgh, jgh, jgh, jgh, jgh, jgh, jgh, jgh, jgh, jgh, jgh, jzA_322, (100, [], jS0), jgh, jgh, jgh, jgh, jgh, jgh, jgh, jgh, jgh, jgh, jgh, jgh, jgh, jgh, jgh, (117, [], [35, 36, 37, 38]), jgh, jgh, jgh, jgh, jgh, jgh, (7, [(4, 39), (4, (-1)), (4, (-1))], []), (114, [], [40]), jgh]) (rfl) (by simp only [List.cons.injEq, Prod.mk.injEq, and_true, true_and] <;> ((try unfold jw); (try unfold jwl); omega)) (rfl) ?_
  refine jT_xaload_n (v := (6, 0)) (pcN := 2330) jI_379_2329 rfl rfl rfl ?_
  refine jT_xiload (v := (0, 0)) (pcN := 2332) jI_379_2330 rfl rfl rfl ?_
  refine jT_xiconst (k := 2) (pcN := 2333) jI_379_2332 rfl ?_
  refine jT_xiadd (x := 0) (y := 2) (z := 2) (pcN := 2334) jI_379_2333 rfl (by decide) rfl ?_
  refine jT_adv 1 (pcN := 2335) (LN := [(5, (0, 0)), (4, (4, 3)), (3, (4, 2)), (2, (4, 1)), (1, (4, 0)), (0, (6, 0))]) (stN := [(0, x2), (0, 3), (4, 0)]) (hsN := jpA_1933) (c1 := 0) (s1 := 0) (c2 := 1) (s2 := 6) (by exact rfl) ?_ (by omega) (by omega)
  refine jT_xaload_n (v := (6, 0)) (pcN := 2336) jI_379_2335 rfl rfl rfl ?_
  refine jT_xiload (v := (0, 0)) (pcN := 2338) jI_379_2336 rfl rfl rfl ?_
  refine jT_xiconst (k := 3) (pcN := 2339) jI_379_2338 rfl ?_
  refine jT_xiadd (x := 0) (y := 3) (z := 3) (pcN := 2340) jI_379_2339 rfl (by decide) rfl ?_
  refine jT_adv 1 (pcN := 2341) (LN := [(5, (0, 0)), (4, (4, 3)), (3, (4, 2)), (2, (4, 1)), (1, (4, 0)), (0, (6, 0))]) (stN := [(0, x3), (0, x2), (0, 3), (4, 0)]) (hsN := jpA_1933) (c1 := 0) (s1 := 0) (c2 := 1) (s2 := 6) (by exact rfl) ?_ (by omega) (by omega)
  refine jT_ifF (a := x3) (t := 2348) (by rfl) (by rfl) (by rfl) (jw_idd (by omega) (by omega)) (by simp only [jcP] <;> omega) ?_
  refine jT_xiconst (k := 1) (pcN := 2345) jI_379_2344 rfl ?_
  refine jT_xgoto (pcN := 2349) jI_379_2345 rfl ?_
  refine jT_xaload_n (v := (4, 2)) (pcN := 2350) jI_379_2349 rfl rfl rfl ?_
  refine jT_fR [0, 2, 4, 5, 6, 7, 8, 9, 10, 11, 12, 13, 14, 30, 31, 32, 33, 34, 35, 36, 37, 38, 39, 40] 41 (y := 354) (pcN := 2353) (dC := 2) (bc1 := 1) (bc2 := 6) (c1 := 0) (c2 := 0) (as := [(4, 0), (0, 3), (0, x2), (0, 1), (4, 2)]) (asC := [(4, 0), (0, 3), (0, x2), (0, 1), (4, 1)]) (LN := [(5, (0, 0)), (4, (4, 3)), (3, (4, 2)), (2, (4, 1)), (1, (4, 0)), (0, (6, 0))]) (stN := []) (hsC := jpA_1872) (v := (0, 1)) (st2 := [(0, 1)]) (jA_354_952 (d := 0) (by omega)) (by rfl) (by rfl) (by decide +kernel) (by rfl) (by rfl) (by omega) (by omega) (by omega) (by omega) rfl ?_
  refine jT_xistore (v := (0, 1)) (LN := [(6, (0, 1)), (5, (0, 0)), (4, (4, 3)), (3, (4, 2)), (2, (4, 1)), (1, (4, 0)), (0, (6, 0))]) (pcN := 2355) jI_379_2353 rfl rfl rfl rfl ?_
  refine jT_xaload_n (v := (4, 1)) (pcN := 2356) jI_379_2355 rfl rfl rfl ?_
  refine jT_xaload_n (v := (6, 0)) (pcN := 2357) jI_379_2356 rfl rfl rfl ?_
  refine jT_xiload (v := (0, 0)) (pcN := 2359) jI_379_2357 rfl rfl rfl ?_
  refine jT_xiconst (k := 1) (pcN := 2360) jI_379_2359 rfl ?_
  refine jT_xiadd (x := 0) (y := 1) (z := 1) (pcN := 2361) jI_379_2360 rfl (by decide) rfl ?_
  refine jT_adv 1 (pcN := 2362) (LN := [(6, (0, 1)), (5, (0, 0)), (4, (4, 3)), (3, (4, 2)), (2, (4, 1)), (1, (4, 0)), (0, (6, 0))]) (stN := [(0, x1), (4, 1)]) (hsN := jpA_1933) (c1 := 0) (s1 := 0) (c2 := 0) (s2 := 0) (by exact rfl) ?_ (by omega) (by omega)
  refine jT_eq (LN := [(6, (0, 1)), (5, (0, 0)), (4, (4, 3)), (3, (4, 2)), (2, (4, 1)), (1, (4, 0)), (0, (6, 0))]) (stN := [(0, 3), (4, 1)]) (hsN := [jzA_265, jzA_266, jgh, jgh, jgh, jgh, jgh, jgh, jgh, jgh, jgh, jgh, jgh, jgh, jzA_322, (100, [], jS0), jgh, jgh, jgh, jgh, jgh, jgh, jgh, jgh, jgh, jgh, jgh, jgh, jgh, jgh, jgh, (117, [], [35, 36, 37, 38]), jgh, jgh, jgh, jgh, jgh, jgh, (7, [(4, 39), (4, (-1)), (4, (-1))], []), (114, [], [40]), jgh]) (rfl) (by simp only [List.cons.injEq, Prod.mk.injEq, and_true, true_and] <;> ((try unfold jw); (try unfold jwl); omega)) (rfl) ?_
  refine jT_xaload_n (v := (6, 0)) (pcN := 2363) jI_379_2362 rfl rfl rfl ?_
  refine jT_xiload (v := (0, 0)) (pcN := 2365) jI_379_2363 rfl rfl rfl ?_
  refine jT_xiconst (k := 2) (pcN := 2366) jI_379_2365 rfl ?_
  refine jT_xiadd (x := 0) (y := 2) (z := 2) (pcN := 2367) jI_379_2366 rfl (by decide) rfl ?_
  refine jT_adv 1 (pcN := 2368) (LN := [(6, (0, 1)), (5, (0, 0)), (4, (4, 3)), (3, (4, 2)), (2, (4, 1)), (1, (4, 0)), (0, (6, 0))]) (stN := [(0, x2), (0, 3), (4, 1)]) (hsN := jpA_1933) (c1 := 0) (s1 := 0) (c2 := 0) (s2 := 0) (by exact rfl) ?_ (by omega) (by omega)
  refine jT_xaload_n (v := (6, 0)) (pcN := 2369) jI_379_2368 rfl rfl rfl ?_
  refine jT_xiload (v := (0, 0)) (pcN := 2371) jI_379_2369 rfl rfl rfl ?_
  refine jT_xiconst (k := 3) (pcN := 2372) jI_379_2371 rfl ?_
  refine jT_xiadd (x := 0) (y := 3) (z := 3) (pcN := 2373) jI_379_2372 rfl (by decide) rfl ?_
  refine jT_adv 1 (pcN := 2374) (LN := [(6, (0, 1)), (5, (0, 0)), (4, (4, 3)), (3, (4, 2)), (2, (4, 1)), (1, (4, 0)), (0, (6, 0))]) (stN := [(0, x3), (0, x2), (0, 3), (4, 1)]) (hsN := jpA_1933) (c1 := 0) (s1 := 0) (c2 := 0) (s2 := 0) (by exact rfl) ?_ (by omega) (by omega)
  refine jT_ifF (a := x3) (t := 2381) (by rfl) (by rfl) (by rfl) (jw_idd (by omega) (by omega)) (by simp only [jcP] <;> omega) ?_
  refine jT_xiconst (k := 1) (pcN := 2378) jI_379_2377 rfl ?_
  refine jT_xgoto (pcN := 2382) jI_379_2378 rfl ?_
  refine jT_fB [1, 15, 16, 17, 18, 19, 20, 21, 22, 23, 24, 25, 26, 27, 28, 29] 41 (y := 279) (pcN := 2385) (dC := 2) (bc1 := 0) (bc2 := 0) (c1 := 0) (c2 := 0) (as := [(4, 1), (0, 3), (0, x2), (0, 1)]) (asC := [(4, 0), (0, 3), (0, x2), (0, 1)]) (LN := [(6, (0, 1)), (5, (0, 0)), (4, (4, 3)), (3, (4, 2)), (2, (4, 1)), (1, (4, 0)), (0, (6, 0))]) (stN := []) (hsC := jpA_1519) (hsD := jpA_1820) (v := (0, 0)) (st2 := [(0, 0)]) (hs2 := jpA_1934) (jA_279_953 (d := 0) (by omega)) (by rfl) (by rfl) (by decide +kernel) (by rfl) (by rfl) (by omega) (by omega) (by omega) (by omega) rfl (by decide +kernel) ?_
  refine jT_xistore (v := (0, 0)) (LN := [(7, (0, 0)), (6, (0, 1)), (5, (0, 0)), (4, (4, 3)), (3, (4, 2)), (2, (4, 1)), (1, (4, 0)), (0, (6, 0))]) (pcN := 2387) jI_379_2385 rfl rfl rfl rfl ?_
  refine jT_xaload_n (v := (4, 1)) (pcN := 2388) jI_379_2387 rfl rfl rfl ?_
  refine jT_fR [1, 15, 16, 17, 18, 19, 20, 21, 22, 23, 24, 25, 26, 27, 28, 29] 41 (y := 186) (pcN := 2391) (dC := 0) (bc1 := 0) (bc2 := 0) (c1 := 0) (c2 := 0) (as := [(4, 1)]) (asC := [(4, 0)]) (LN := [(7, (0, 0)), (6, (0, 1)), (5, (0, 0)), (4, (4, 3)), (3, (4, 2)), (2, (4, 1)), (1, (4, 0)), (0, (6, 0))]) (stN := []) (hsC := jpA_20) (v := (0, 1)) (st2 := [(0, 1)]) (jA_186_8 (d := 0)) (by rfl) (by rfl) (by decide +kernel) (by rfl) (by rfl) (by omega) (by omega) (by omega) (by omega) rfl ?_
  refine jT_xiload (v := (0, 1)) (pcN := 2393) jI_379_2391 rfl rfl rfl ?_
  refine jT_xicT (pcN := 2398) jI_379_2393 rfl (by decide +kernel) rfl ?_
  refine jT_xiload (v := (0, 1)) (pcN := 2400) jI_379_2398 rfl rfl rfl ?_
  refine jT_xifT (pcN := 2415) jI_379_2400 rfl (by decide +kernel) rfl ?_
  refine jT_xgoto (pcN := 3740) jI_379_2415 rfl ?_
  refine jT_xiinc (x := 0) (z := 5) (LN := [(5, (0, 5)), (7, (0, 0)), (6, (0, 1)), (4, (4, 3)), (3, (4, 2)), (2, (4, 1)), (1, (4, 0)), (0, (6, 0))]) (pcN := 3743) jI_379_3740 rfl rfl (by decide) rfl rfl ?_
  refine jT_xgoto (pcN := 28) jI_379_3743 rfl ?_
  refine jT_xiload (v := (0, 5)) (pcN := 30) jI_379_28 rfl rfl rfl ?_
  refine jT_xaload_n (v := (6, 0)) (pcN := 31) jI_379_30 rfl rfl rfl ?_
  refine jT_adv 1 (pcN := 32) (LN := [(5, (0, 5)), (7, (0, 0)), (6, (0, 1)), (4, (4, 3)), (3, (4, 2)), (2, (4, 1)), (1, (4, 0)), (0, (6, 0))]) (stN := [(0, 5), (0, 5)]) (hsN := jpA_1934) (c1 := 0) (s1 := 0) (c2 := 0) (s2 := 0) (by exact rfl) ?_ (by omega) (by omega)
  refine jT_xiconst (k := 5) (pcN := 33) jI_379_32 rfl ?_
  refine jT_xisub (x := 5) (y := 5) (z := 0) (pcN := 34) jI_379_33 rfl (by decide) rfl ?_
  refine jT_xicT (pcN := 3746) jI_379_34 rfl (by decide +kernel) rfl ?_
  refine jT_xiconst (k := 1) (pcN := 3747) jI_379_3746 rfl ?_
  exact jT_ret rfl (by decide) (by show 41 ≤ 41; decide) (by omega) (by omega) ⟨rfl, rfl⟩
set_option maxRecDepth 100000 in
theorem jL_30_13 {d : Nat} {x0 x1 x2 x3 x4 : Int} (h_x0 : (-2147483648) ≤ x0 ∧ x0 ≤ 2147483647) (h_x1 : 4 ≤ x1 ∧ x1 ≤ 2147483647) (h_x2 : (-2147483648) ≤ x2 ∧ x2 ≤ 2147483647) (h_x3 : (-2147483648) ≤ x3 ∧ x3 ≤ (-1)) (h_x4 : (-2147483648) ≤ x4 ∧ x4 ≤ 2147483647) : jT [x0, x1, x2, x3, x4] (d + 3) 379 30 2322 [(5, (0, 0)), (4, (4, 3)), (3, (4, 2)), (2, (4, 1)), (1, (4, 0)), (0, (6, 0))] [] jpA_267 1 6 (fun k v hsN => k = 0 ∧ v = (0, 1)) := by
  refine jT_xaload_n (v := (4, 0)) (pcN := 2323) jI_379_2322 rfl rfl rfl ?_
  refine jT_xaload_n (v := (6, 0)) (pcN := 2324) jI_379_2323 rfl rfl rfl ?_
  refine jT_xiload (v := (0, 0)) (pcN := 2326) jI_379_2324 rfl rfl rfl ?_
  refine jT_xiconst (k := 1) (pcN := 2327) jI_379_2326 rfl ?_
  refine jT_xiadd (x := 0) (y := 1) (z := 1) (pcN := 2328) jI_379_2327 rfl (by decide) rfl ?_
  refine jT_adv 1 (pcN := 2329) (LN := [(5, (0, 0)), (4, (4, 3)), (3, (4, 2)), (2, (4, 1)), (1, (4, 0)), (0, (6, 0))]) (stN := [(0, x1), (4, 0)]) (hsN := jpA_267) (c1 := 0) (s1 := 0) (c2 := 1) (s2 := 6) (by exact rfl) ?_ (by omega) (by omega)
  refine jT_xaload_n (v := (6, 0)) (pcN := 2330) jI_379_2329 rfl rfl rfl ?_
  refine jT_xiload (v := (0, 0)) (pcN := 2332) jI_379_2330 rfl rfl rfl ?_
  refine jT_xiconst (k := 2) (pcN := 2333) jI_379_2332 rfl ?_
  refine jT_xiadd (x := 0) (y := 2) (z := 2) (pcN := 2334) jI_379_2333 rfl (by decide) rfl ?_
  refine jT_adv 1 (pcN := 2335) (LN := [(5, (0, 0)), (4, (4, 3)), (3, (4, 2)), (2, (4, 1)), (1, (4, 0)), (0, (6, 0))]) (stN := [(0, x2), (0, x1), (4, 0)]) (hsN := jpA_267) (c1 := 0) (s1 := 0) (c2 := 1) (s2 := 6) (by exact rfl) ?_ (by omega) (by omega)
  refine jT_xaload_n (v := (6, 0)) (pcN := 2336) jI_379_2335 rfl rfl rfl ?_
  refine jT_xiload (v := (0, 0)) (pcN := 2338) jI_379_2336 rfl rfl rfl ?_
  refine jT_xiconst (k := 3) (pcN := 2339) jI_379_2338 rfl ?_
  refine jT_xiadd (x := 0) (y := 3) (z := 3) (pcN := 2340) jI_379_2339 rfl (by decide) rfl ?_
  refine jT_adv 1 (pcN := 2341) (LN := [(5, (0, 0)), (4, (4, 3)), (3, (4, 2)), (2, (4, 1)), (1, (4, 0)), (0, (6, 0))]) (stN := [(0, x3), (0, x2), (0, x1), (4, 0)]) (hsN := jpA_267) (c1 := 0) (s1 := 0) (c2 := 1) (s2 := 6) (by exact rfl) ?_ (by omega) (by omega)
  refine jT_ifF (a := x3) (t := 2348) (by rfl) (by rfl) (by rfl) (jw_idd (by omega) (by omega)) (by simp only [jcP] <;> omega) ?_
  refine jT_xiconst (k := 1) (pcN := 2345) jI_379_2344 rfl ?_
  refine jT_xgoto (pcN := 2349) jI_379_2345 rfl ?_
  refine jT_xaload_n (v := (4, 2)) (pcN := 2350) jI_379_2349 rfl rfl rfl ?_
  refine jT_fR [0, 2, 4, 5, 6, 7, 8, 9, 10, 11, 12, 13, 14] 30 (y := 354) (pcN := 2353) (dC := 2) (bc1 := 1) (bc2 := 6) (c1 := 0) (c2 := 0) (as := [(4, 0), (0, x1), (0, x2), (0, 1), (4, 2)]) (asC := [(4, 0), (0, x1), (0, x2), (0, 1), (4, 1)]) (LN := [(5, (0, 0)), (4, (4, 3)), (3, (4, 2)), (2, (4, 1)), (1, (4, 0)), (0, (6, 0))]) (stN := []) (hsC := jpA_15) (v := (0, 1)) (st2 := [(0, 1)]) (jA_354_955 (d := 0) (by omega) (by omega)) (by rfl) (by rfl) (by decide +kernel) (by rfl) (by rfl) (by omega) (by omega) (by omega) (by omega) rfl ?_
  refine jT_xistore (v := (0, 1)) (LN := [(6, (0, 1)), (5, (0, 0)), (4, (4, 3)), (3, (4, 2)), (2, (4, 1)), (1, (4, 0)), (0, (6, 0))]) (pcN := 2355) jI_379_2353 rfl rfl rfl rfl ?_
  refine jT_xaload_n (v := (4, 1)) (pcN := 2356) jI_379_2355 rfl rfl rfl ?_
  refine jT_xaload_n (v := (6, 0)) (pcN := 2357) jI_379_2356 rfl rfl rfl ?_
  refine jT_xiload (v := (0, 0)) (pcN := 2359) jI_379_2357 rfl rfl rfl ?_
  refine jT_xiconst (k := 1) (pcN := 2360) jI_379_2359 rfl ?_
  refine jT_xiadd (x := 0) (y := 1) (z := 1) (pcN := 2361) jI_379_2360 rfl (by decide) rfl ?_
  refine jT_adv 1 (pcN := 2362) (LN := [(6, (0, 1)), (5, (0, 0)), (4, (4, 3)), (3, (4, 2)), (2, (4, 1)), (1, (4, 0)), (0, (6, 0))]) (stN := [(0, x1), (4, 1)]) (hsN := jpA_267) (c1 := 0) (s1 := 0) (c2 := 0) (s2 := 0) (by exact rfl) ?_ (by omega) (by omega)
  refine jT_xaload_n (v := (6, 0)) (pcN := 2363) jI_379_2362 rfl rfl rfl ?_
  refine jT_xiload (v := (0, 0)) (pcN := 2365) jI_379_2363 rfl rfl rfl ?_
  refine jT_xiconst (k := 2) (pcN := 2366) jI_379_2365 rfl ?_
  refine jT_xiadd (x := 0) (y := 2) (z := 2) (pcN := 2367) jI_379_2366 rfl (by decide) rfl ?_
  refine jT_adv 1 (pcN := 2368) (LN := [(6, (0, 1)), (5, (0, 0)), (4, (4, 3)), (3, (4, 2)), (2, (4, 1)), (1, (4, 0)), (0, (6, 0))]) (stN := [(0, x2), (0, x1), (4, 1)]) (hsN := jpA_267) (c1 := 0) (s1 := 0) (c2 := 0) (s2 := 0) (by exact rfl) ?_ (by omega) (by omega)
  refine jT_xaload_n (v := (6, 0)) (pcN := 2369) jI_379_2368 rfl rfl rfl ?_
  refine jT_xiload (v := (0, 0)) (pcN := 2371) jI_379_2369 rfl rfl rfl ?_
  refine jT_xiconst (k := 3) (pcN := 2372) jI_379_2371 rfl ?_
  refine jT_xiadd (x := 0) (y := 3) (z := 3) (pcN := 2373) jI_379_2372 rfl (by decide) rfl ?_
  refine jT_adv 1 (pcN := 2374) (LN := [(6, (0, 1)), (5, (0, 0)), (4, (4, 3)), (3, (4, 2)), (2, (4, 1)), (1, (4, 0)), (0, (6, 0))]) (stN := [(0, x3), (0, x2), (0, x1), (4, 1)]) (hsN := jpA_267) (c1 := 0) (s1 := 0) (c2 := 0) (s2 := 0) (by exact rfl) ?_ (by omega) (by omega)
  refine jT_ifF (a := x3) (t := 2381) (by rfl) (by rfl) (by rfl) (jw_idd (by omega) (by omega)) (by simp only [jcP] <;> omega) ?_
  refine jT_xiconst (k := 1) (pcN := 2378) jI_379_2377 rfl ?_
  refine jT_xgoto (pcN := 2382) jI_379_2378 rfl ?_
  refine jT_fB [1, 15, 16, 17, 18, 19, 20, 21, 22, 23, 24, 25, 26, 27, 28, 29] 30 (y := 279) (pcN := 2385) (dC := 2) (bc1 := 0) (bc2 := 0) (c1 := 0) (c2 := 0) (as := [(4, 1), (0, x1), (0, x2), (0, 1)]) (asC := [(4, 0), (0, x1), (0, x2), (0, 1)]) (LN := [(6, (0, 1)), (5, (0, 0)), (4, (4, 3)), (3, (4, 2)), (2, (4, 1)), (1, (4, 0)), (0, (6, 0))]) (stN := []) (hsC := jpA_22) (hsD := jpA_20) (v := (0, 0)) (st2 := [(0, 0)]) (hs2 := jpA_306) (jA_279_956 (d := 0) (by omega) (by omega)) (by rfl) (by rfl) (by decide +kernel) (by rfl) (by rfl) (by omega) (by omega) (by omega) (by omega) rfl (by decide +kernel) ?_
  refine jT_xistore (v := (0, 0)) (LN := [(7, (0, 0)), (6, (0, 1)), (5, (0, 0)), (4, (4, 3)), (3, (4, 2)), (2, (4, 1)), (1, (4, 0)), (0, (6, 0))]) (pcN := 2387) jI_379_2385 rfl rfl rfl rfl ?_
  refine jT_xaload_n (v := (4, 1)) (pcN := 2388) jI_379_2387 rfl rfl rfl ?_
  refine jT_fR [1, 15, 16, 17, 18, 19, 20, 21, 22, 23, 24, 25, 26, 27, 28, 29] 30 (y := 186) (pcN := 2391) (dC := 0) (bc1 := 0) (bc2 := 0) (c1 := 0) (c2 := 0) (as := [(4, 1)]) (asC := [(4, 0)]) (LN := [(7, (0, 0)), (6, (0, 1)), (5, (0, 0)), (4, (4, 3)), (3, (4, 2)), (2, (4, 1)), (1, (4, 0)), (0, (6, 0))]) (stN := []) (hsC := jpA_20) (v := (0, 1)) (st2 := [(0, 1)]) (jA_186_8 (d := 0)) (by rfl) (by rfl) (by decide +kernel) (by rfl) (by rfl) (by omega) (by omega) (by omega) (by omega) rfl ?_
  refine jT_xiload (v := (0, 1)) (pcN := 2393) jI_379_2391 rfl rfl rfl ?_
  refine jT_xicT (pcN := 2398) jI_379_2393 rfl (by decide +kernel) rfl ?_
  refine jT_xiload (v := (0, 1)) (pcN := 2400) jI_379_2398 rfl rfl rfl ?_
  refine jT_xifT (pcN := 2415) jI_379_2400 rfl (by decide +kernel) rfl ?_
  refine jT_xgoto (pcN := 3740) jI_379_2415 rfl ?_
  refine jT_xiinc (x := 0) (z := 5) (LN := [(5, (0, 5)), (7, (0, 0)), (6, (0, 1)), (4, (4, 3)), (3, (4, 2)), (2, (4, 1)), (1, (4, 0)), (0, (6, 0))]) (pcN := 3743) jI_379_3740 rfl rfl (by decide) rfl rfl ?_
  refine jT_xgoto (pcN := 28) jI_379_3743 rfl ?_
  refine jT_xiload (v := (0, 5)) (pcN := 30) jI_379_28 rfl rfl rfl ?_
  refine jT_xaload_n (v := (6, 0)) (pcN := 31) jI_379_30 rfl rfl rfl ?_
  refine jT_adv 1 (pcN := 32) (LN := [(5, (0, 5)), (7, (0, 0)), (6, (0, 1)), (4, (4, 3)), (3, (4, 2)), (2, (4, 1)), (1, (4, 0)), (0, (6, 0))]) (stN := [(0, 5), (0, 5)]) (hsN := jpA_306) (c1 := 0) (s1 := 0) (c2 := 0) (s2 := 0) (by exact rfl) ?_ (by omega) (by omega)
  refine jT_xiconst (k := 5) (pcN := 33) jI_379_32 rfl ?_
  refine jT_xisub (x := 5) (y := 5) (z := 0) (pcN := 34) jI_379_33 rfl (by decide) rfl ?_
  refine jT_xicT (pcN := 3746) jI_379_34 rfl (by decide +kernel) rfl ?_
  refine jT_xiconst (k := 1) (pcN := 3747) jI_379_3746 rfl ?_
  exact jT_ret rfl (by decide) (by show 30 ≤ 30; decide) (by omega) (by omega) ⟨rfl, rfl⟩
theorem jI_379_2348 : jmI (jm 379) 2348 = (.iconst 0, 1) := by rfl
theorem jI_379_2381 : jmI (jm 379) 2381 = (.iconst 0, 1) := by rfl
set_option maxRecDepth 100000 in
theorem jL_30_14 {d : Nat} {x0 x1 x2 x3 x4 : Int} (h_x0 : (-2147483648) ≤ x0 ∧ x0 ≤ 2147483647) (h_x1 : (-2147483648) ≤ x1 ∧ x1 ≤ (-1)) (h_x2 : (-2147483648) ≤ x2 ∧ x2 ≤ 2147483647) (h_x3 : 0 ≤ x3 ∧ x3 ≤ 0) (h_x4 : (-2147483648) ≤ x4 ∧ x4 ≤ 2147483647) : jT [x0, x1, x2, x3, x4] (d + 3) 379 30 2322 [(5, (0, 0)), (4, (4, 3)), (3, (4, 2)), (2, (4, 1)), (1, (4, 0)), (0, (6, 0))] [] jpA_267 1 6 (fun k v hsN => k = 0 ∧ v = (0, 1)) := by
  refine jT_xaload_n (v := (4, 0)) (pcN := 2323) jI_379_2322 rfl rfl rfl ?_
  refine jT_xaload_n (v := (6, 0)) (pcN := 2324) jI_379_2323 rfl rfl rfl ?_
  refine jT_xiload (v := (0, 0)) (pcN := 2326) jI_379_2324 rfl rfl rfl ?_
  refine jT_xiconst (k := 1) (pcN := 2327) jI_379_2326 rfl ?_
  refine jT_xiadd (x := 0) (y := 1) (z := 1) (pcN := 2328) jI_379_2327 rfl (by decide) rfl ?_
  refine jT_adv 1 (pcN := 2329) (LN := [(5, (0, 0)), (4, (4, 3)), (3, (4, 2)), (2, (4, 1)), (1, (4, 0)), (0, (6, 0))]) (stN := [(0, x1), (4, 0)]) (hsN := jpA_267) (c1 := 0) (s1 := 0) (c2 := 1) (s2 := 6) (by exact rfl) ?_ (by omega) (by omega)
  refine jT_xaload_n (v := (6, 0)) (pcN := 2330) jI_379_2329 rfl rfl rfl ?_
  refine jT_xiload (v := (0, 0)) (pcN := 2332) jI_379_2330 rfl rfl rfl ?_
  refine jT_xiconst (k := 2) (pcN := 2333) jI_379_2332 rfl ?_
  refine jT_xiadd (x := 0) (y := 2) (z := 2) (pcN := 2334) jI_379_2333 rfl (by decide) rfl ?_
  refine jT_adv 1 (pcN := 2335) (LN := [(5, (0, 0)), (4, (4, 3)), (3, (4, 2)), (2, (4, 1)), (1, (4, 0)), (0, (6, 0))]) (stN := [(0, x2), (0, x1), (4, 0)]) (hsN := jpA_267) (c1 := 0) (s1 := 0) (c2 := 1) (s2 := 6) (by exact rfl) ?_ (by omega) (by omega)
  refine jT_xaload_n (v := (6, 0)) (pcN := 2336) jI_379_2335 rfl rfl rfl ?_
  refine jT_xiload (v := (0, 0)) (pcN := 2338) jI_379_2336 rfl rfl rfl ?_
  refine jT_xiconst (k := 3) (pcN := 2339) jI_379_2338 rfl ?_
  refine jT_xiadd (x := 0) (y := 3) (z := 3) (pcN := 2340) jI_379_2339 rfl (by decide) rfl ?_
  refine jT_adv 1 (pcN := 2341) (LN := [(5, (0, 0)), (4, (4, 3)), (3, (4, 2)), (2, (4, 1)), (1, (4, 0)), (0, (6, 0))]) (stN := [(0, x3), (0, x2), (0, x1), (4, 0)]) (hsN := jpA_267) (c1 := 0) (s1 := 0) (c2 := 1) (s2 := 6) (by exact rfl) ?_ (by omega) (by omega)
  refine jT_eq (LN := [(5, (0, 0)), (4, (4, 3)), (3, (4, 2)), (2, (4, 1)), (1, (4, 0)), (0, (6, 0))]) (stN := [(0, 0), (0, x2), (0, x1), (4, 0)]) (hsN := [jzA_265, jzA_266, jgh, jgh, jgh, jgh, jgh, jgh, jgh, jgh, jgh, jgh, jgh, jgh, jgh, jgh, jgh, jgh, jgh, jgh, jgh, jgh, jgh, jgh, jgh, jgh, jgh, jgh, jgh, jgh]) (rfl) (by simp only [List.cons.injEq, Prod.mk.injEq, and_true, true_and] <;> ((try unfold jw); (try unfold jwl); omega)) (rfl) ?_
  refine jT_xifT (pcN := 2348) jI_379_2341 rfl (by decide +kernel) rfl ?_
  refine jT_xiconst (k := 0) (pcN := 2349) jI_379_2348 rfl ?_
  refine jT_xaload_n (v := (4, 2)) (pcN := 2350) jI_379_2349 rfl rfl rfl ?_
  refine jT_fR [0, 2, 4, 5, 6, 7, 8, 9, 10, 11, 12, 13, 14] 30 (y := 354) (pcN := 2353) (dC := 2) (bc1 := 1) (bc2 := 6) (c1 := 0) (c2 := 0) (as := [(4, 0), (0, x1), (0, x2), (0, 0), (4, 2)]) (asC := [(4, 0), (0, x1), (0, x2), (0, 0), (4, 1)]) (LN := [(5, (0, 0)), (4, (4, 3)), (3, (4, 2)), (2, (4, 1)), (1, (4, 0)), (0, (6, 0))]) (stN := []) (hsC := jpA_15) (v := (0, 1)) (st2 := [(0, 1)]) (jA_354_958 (d := 0) (by omega) (by omega)) (by rfl) (by rfl) (by decide +kernel) (by rfl) (by rfl) (by omega) (by omega) (by omega) (by omega) rfl ?_
  refine jT_xistore (v := (0, 1)) (LN := [(6, (0, 1)), (5, (0, 0)), (4, (4, 3)), (3, (4, 2)), (2, (4, 1)), (1, (4, 0)), (0, (6, 0))]) (pcN := 2355) jI_379_2353 rfl rfl rfl rfl ?_
  refine jT_xaload_n (v := (4, 1)) (pcN := 2356) jI_379_2355 rfl rfl rfl ?_
  refine jT_xaload_n (v := (6, 0)) (pcN := 2357) jI_379_2356 rfl rfl rfl ?_
  refine jT_xiload (v := (0, 0)) (pcN := 2359) jI_379_2357 rfl rfl rfl ?_
  refine jT_xiconst (k := 1) (pcN := 2360) jI_379_2359 rfl ?_
  refine jT_xiadd (x := 0) (y := 1) (z := 1) (pcN := 2361) jI_379_2360 rfl (by decide) rfl ?_
  refine jT_adv 1 (pcN := 2362) (LN := [(6, (0, 1)), (5, (0, 0)), (4, (4, 3)), (3, (4, 2)), (2, (4, 1)), (1, (4, 0)), (0, (6, 0))]) (stN := [(0, x1), (4, 1)]) (hsN := jpA_267) (c1 := 0) (s1 := 0) (c2 := 0) (s2 := 0) (by exact rfl) ?_ (by omega) (by omega)
  refine jT_xaload_n (v := (6, 0)) (pcN := 2363) jI_379_2362 rfl rfl rfl ?_
  refine jT_xiload (v := (0, 0)) (pcN := 2365) jI_379_2363 rfl rfl rfl ?_
  refine jT_xiconst (k := 2) (pcN := 2366) jI_379_2365 rfl ?_
  refine jT_xiadd (x := 0) (y := 2) (z := 2) (pcN := 2367) jI_379_2366 rfl (by decide) rfl ?_
  refine jT_adv 1 (pcN := 2368) (LN := [(6, (0, 1)), (5, (0, 0)), (4, (4, 3)), (3, (4, 2)), (2, (4, 1)), (1, (4, 0)), (0, (6, 0))]) (stN := [(0, x2), (0, x1), (4, 1)]) (hsN := jpA_267) (c1 := 0) (s1 := 0) (c2 := 0) (s2 := 0) (by exact rfl) ?_ (by omega) (by omega)
  refine jT_xaload_n (v := (6, 0)) (pcN := 2369) jI_379_2368 rfl rfl rfl ?_
  refine jT_xiload (v := (0, 0)) (pcN := 2371) jI_379_2369 rfl rfl rfl ?_
  refine jT_xiconst (k := 3) (pcN := 2372) jI_379_2371 rfl ?_
  refine jT_xiadd (x := 0) (y := 3) (z := 3) (pcN := 2373) jI_379_2372 rfl (by decide) rfl ?_
  refine jT_adv 1 (pcN := 2374) (LN := [(6, (0, 1)), (5, (0, 0)), (4, (4, 3)), (3, (4, 2)), (2, (4, 1)), (1, (4, 0)), (0, (6, 0))]) (stN := [(0, x3), (0, x2), (0, x1), (4, 1)]) (hsN := jpA_267) (c1 := 0) (s1 := 0) (c2 := 0) (s2 := 0) (by exact rfl) ?_ (by omega) (by omega)
  refine jT_eq (LN := [(6, (0, 1)), (5, (0, 0)), (4, (4, 3)), (3, (4, 2)), (2, (4, 1)), (1, (4, 0)), (0, (6, 0))]) (stN := [(0, 0), (0, x2), (0, x1), (4, 1)]) (hsN := [jzA_265, jzA_266, jgh, jgh, jgh, jgh, jgh, jgh, jgh, jgh, jgh, jgh, jgh, jgh, jgh, jgh, jgh, jgh, jgh, jgh, jgh, jgh, jgh, jgh, jgh, jgh, jgh, jgh, jgh, jgh]) (rfl) (by simp only [List.cons.injEq, Prod.mk.injEq, and_true, true_and] <;> ((try unfold jw); (try unfold jwl); omega)) (rfl) ?_
  refine jT_xifT (pcN := 2381) jI_379_2374 rfl (by decide +kernel) rfl ?_
  refine jT_xiconst (k := 0) (pcN := 2382) jI_379_2381 rfl ?_
  refine jT_fB [1, 15, 16, 17, 18, 19, 20, 21, 22, 23, 24, 25, 26, 27, 28, 29] 30 (y := 279) (pcN := 2385) (dC := 2) (bc1 := 0) (bc2 := 0) (c1 := 0) (c2 := 0) (as := [(4, 1), (0, x1), (0, x2), (0, 0)]) (asC := [(4, 0), (0, x1), (0, x2), (0, 0)]) (LN := [(6, (0, 1)), (5, (0, 0)), (4, (4, 3)), (3, (4, 2)), (2, (4, 1)), (1, (4, 0)), (0, (6, 0))]) (stN := []) (hsC := jpA_22) (hsD := jpA_20) (v := (0, 0)) (st2 := [(0, 0)]) (hs2 := jpA_306) (jA_279_959 (d := 0) (by omega) (by omega)) (by rfl) (by rfl) (by decide +kernel) (by rfl) (by rfl) (by omega) (by omega) (by omega) (by omega) rfl (by decide +kernel) ?_
  refine jT_xistore (v := (0, 0)) (LN := [(7, (0, 0)), (6, (0, 1)), (5, (0, 0)), (4, (4, 3)), (3, (4, 2)), (2, (4, 1)), (1, (4, 0)), (0, (6, 0))]) (pcN := 2387) jI_379_2385 rfl rfl rfl rfl ?_
  refine jT_xaload_n (v := (4, 1)) (pcN := 2388) jI_379_2387 rfl rfl rfl ?_
  refine jT_fR [1, 15, 16, 17, 18, 19, 20, 21, 22, 23, 24, 25, 26, 27, 28, 29] 30 (y := 186) (pcN := 2391) (dC := 0) (bc1 := 0) (bc2 := 0) (c1 := 0) (c2 := 0) (as := [(4, 1)]) (asC := [(4, 0)]) (LN := [(7, (0, 0)), (6, (0, 1)), (5, (0, 0)), (4, (4, 3)), (3, (4, 2)), (2, (4, 1)), (1, (4, 0)), (0, (6, 0))]) (stN := []) (hsC := jpA_20) (v := (0, 1)) (st2 := [(0, 1)]) (jA_186_8 (d := 0)) (by rfl) (by rfl) (by decide +kernel) (by rfl) (by rfl) (by omega) (by omega) (by omega) (by omega) rfl ?_
  refine jT_xiload (v := (0, 1)) (pcN := 2393) jI_379_2391 rfl rfl rfl ?_
  refine jT_xicT (pcN := 2398) jI_379_2393 rfl (by decide +kernel) rfl ?_
  refine jT_xiload (v := (0, 1)) (pcN := 2400) jI_379_2398 rfl rfl rfl ?_
  refine jT_xifT (pcN := 2415) jI_379_2400 rfl (by decide +kernel) rfl ?_
  refine jT_xgoto (pcN := 3740) jI_379_2415 rfl ?_
  refine jT_xiinc (x := 0) (z := 5) (LN := [(5, (0, 5)), (7, (0, 0)), (6, (0, 1)), (4, (4, 3)), (3, (4, 2)), (2, (4, 1)), (1, (4, 0)), (0, (6, 0))]) (pcN := 3743) jI_379_3740 rfl rfl (by decide) rfl rfl ?_
  refine jT_xgoto (pcN := 28) jI_379_3743 rfl ?_
  refine jT_xiload (v := (0, 5)) (pcN := 30) jI_379_28 rfl rfl rfl ?_
  refine jT_xaload_n (v := (6, 0)) (pcN := 31) jI_379_30 rfl rfl rfl ?_
  refine jT_adv 1 (pcN := 32) (LN := [(5, (0, 5)), (7, (0, 0)), (6, (0, 1)), (4, (4, 3)), (3, (4, 2)), (2, (4, 1)), (1, (4, 0)), (0, (6, 0))]) (stN := [(0, 5), (0, 5)]) (hsN := jpA_306) (c1 := 0) (s1 := 0) (c2 := 0) (s2 := 0) (by exact rfl) ?_ (by omega) (by omega)
  refine jT_xiconst (k := 5) (pcN := 33) jI_379_32 rfl ?_
  refine jT_xisub (x := 5) (y := 5) (z := 0) (pcN := 34) jI_379_33 rfl (by decide) rfl ?_
  refine jT_xicT (pcN := 3746) jI_379_34 rfl (by decide +kernel) rfl ?_
  refine jT_xiconst (k := 1) (pcN := 3747) jI_379_3746 rfl ?_
  exact jT_ret rfl (by decide) (by show 30 ≤ 30; decide) (by omega) (by omega) ⟨rfl, rfl⟩
set_option maxRecDepth 100000 in
theorem jL_30_15 {d : Nat} {x0 x1 x2 x3 x4 : Int} (h_x0 : (-2147483648) ≤ x0 ∧ x0 ≤ 2147483647) (h_x1 : 0 ≤ x1 ∧ x1 ≤ 0) (h_x2 : (-2147483648) ≤ x2 ∧ x2 ≤ (-1)) (h_x3 : 0 ≤ x3 ∧ x3 ≤ 0) (h_x4 : (-2147483648) ≤ x4 ∧ x4 ≤ 2147483647) : jT [x0, x1, x2, x3, x4] (d + 3) 379 41 2322 [(5, (0, 0)), (4, (4, 3)), (3, (4, 2)), (2, (4, 1)), (1, (4, 0)), (0, (6, 0))] [] jpA_1911 1 6 (fun k v hsN => k = 0 ∧ v = (0, 1)) := by
  refine jT_xaload_n (v := (4, 0)) (pcN := 2323) jI_379_2322 rfl rfl rfl ?_
  refine jT_xaload_n (v := (6, 0)) (pcN := 2324) jI_379_2323 rfl rfl rfl ?_
  refine jT_xiload (v := (0, 0)) (pcN := 2326) jI_379_2324 rfl rfl rfl ?_
  refine jT_xiconst (k := 1) (pcN := 2327) jI_379_2326 rfl ?_
  refine jT_xiadd (x := 0) (y := 1) (z := 1) (pcN := 2328) jI_379_2327 rfl (by decide) rfl ?_
  refine jT_adv 1 (pcN := 2329) (LN := [(5, (0, 0)), (4, (4, 3)), (3, (4, 2)), (2, (4, 1)), (1, (4, 0)), (0, (6, 0))]) (stN := [(0, x1), (4, 0)]) (hsN := jpA_1911) (c1 := 0) (s1 := 0) (c2 := 1) (s2 := 6) (by exact rfl) ?_ (by omega) (by omega)
  refine jT_eq (LN := [(5, (0, 0)), (4, (4, 3)), (3, (4, 2)), (2, (4, 1)), (1, (4, 0)), (0, (6, 0))]) (stN := [(0, 0), (4, 0)]) (hsN := [jzA_265, jzA_266, jgh, jgh, jgh, jgh, jgh, jgh, jgh, jgh, jgh, jgh, jgh, jgh, jzA_322, (100, [], jS0), jgh, jgh, jgh, jgh, jgh, jgh, jgh, jgh, jgh, jgh, jgh, jgh, jgh, jgh, jgh, (117, [], [35, 36, 37, 38]), jgh, jgh, jgh, (7, [(4, 39), (4, (-1)), (4, (-1))], []), jgh, jgh, jgh, (114, [], [40]), jgh]) (rfl) (by simp only [List.cons.injEq, Prod.mk.injEq, and_true, true_and] <;> ((try unfold jw); (try unfold jwl); omega)) (rfl) ?_
  refine jT_xaload_n (v := (6, 0)) (pcN := 2330) jI_379_2329 rfl rfl rfl ?_
  refine jT_xiload (v := (0, 0)) (pcN := 2332) jI_379_2330 rfl rfl rfl ?_
  refine jT_xiconst (k := 2) (pcN := 2333) jI_379_2332 rfl ?_
  refine jT_xiadd (x := 0) (y := 2) (z := 2) (pcN := 2334) jI_379_2333 rfl (by decide) rfl ?_
  refine jT_adv 1 (pcN := 2335) (LN := [(5, (0, 0)), (4, (4, 3)), (3, (4, 2)), (2, (4, 1)), (1, (4, 0)), (0, (6, 0))]) (stN := [(0, x2), (0, 0), (4, 0)]) (hsN := jpA_1911) (c1 := 0) (s1 := 0) (c2 := 1) (s2 := 6) (by exact rfl) ?_ (by omega) (by omega)
  refine jT_xaload_n (v := (6, 0)) (pcN := 2336) jI_379_2335 rfl rfl rfl ?_
  refine jT_xiload (v := (0, 0)) (pcN := 2338) jI_379_2336 rfl rfl rfl ?_
  refine jT_xiconst (k := 3) (pcN := 2339) jI_379_2338 rfl ?_
  refine jT_xiadd (x := 0) (y := 3) (z := 3) (pcN := 2340) jI_379_2339 rfl (by decide) rfl ?_
  refine jT_adv 1 (pcN := 2341) (LN := [(5, (0, 0)), (4, (4, 3)), (3, (4, 2)), (2, (4, 1)), (1, (4, 0)), (0, (6, 0))]) (stN := [(0, x3), (0, x2), (0, 0), (4, 0)]) (hsN := jpA_1911) (c1 := 0) (s1 := 0) (c2 := 1) (s2 := 6) (by exact rfl) ?_ (by omega) (by omega)
  refine jT_eq (LN := [(5, (0, 0)), (4, (4, 3)), (3, (4, 2)), (2, (4, 1)), (1, (4, 0)), (0, (6, 0))]) (stN := [(0, 0), (0, x2), (0, 0), (4, 0)]) (hsN := [jzA_265, jzA_266, jgh, jgh, jgh, jgh, jgh, jgh, jgh, jgh, jgh, jgh, jgh, jgh, jzA_322, (100, [], jS0), jgh, jgh, jgh, jgh, jgh, jgh, jgh, jgh, jgh, jgh, jgh, jgh, jgh, jgh, jgh, (117, [], [35, 36, 37, 38]), jgh, jgh, jgh, (7, [(4, 39), (4, (-1)), (4, (-1))], []), jgh, jgh, jgh, (114, [], [40]), jgh]) (rfl) (by simp only [List.cons.injEq, Prod.mk.injEq, and_true, true_and] <;> ((try unfold jw); (try unfold jwl); omega)) (rfl) ?_
  refine jT_xifT (pcN := 2348) jI_379_2341 rfl (by decide +kernel) rfl ?_
  refine jT_xiconst (k := 0) (pcN := 2349) jI_379_2348 rfl ?_
  refine jT_xaload_n (v := (4, 2)) (pcN := 2350) jI_379_2349 rfl rfl rfl ?_
  refine jT_fR [0, 2, 4, 5, 6, 7, 8, 9, 10, 11, 12, 13, 14, 30, 31, 32, 33, 34, 35, 36, 37, 38, 39, 40] 41 (y := 354) (pcN := 2353) (dC := 2) (bc1 := 1) (bc2 := 6) (c1 := 0) (c2 := 0) (as := [(4, 0), (0, 0), (0, x2), (0, 0), (4, 2)]) (asC := [(4, 0), (0, 0), (0, x2), (0, 0), (4, 1)]) (LN := [(5, (0, 0)), (4, (4, 3)), (3, (4, 2)), (2, (4, 1)), (1, (4, 0)), (0, (6, 0))]) (stN := []) (hsC := jpA_1806) (v := (0, 1)) (st2 := [(0, 1)]) (jA_354_961 (d := 0) (by omega)) (by rfl) (by rfl) (by decide +kernel) (by rfl) (by rfl) (by omega) (by omega) (by omega) (by omega) rfl ?_
  refine jT_xistore (v := (0, 1)) (LN := [(6, (0, 1)), (5, (0, 0)), (4, (4, 3)), (3, (4, 2)), (2, (4, 1)), (1, (4, 0)), (0, (6, 0))]) (pcN := 2355) jI_379_2353 rfl rfl rfl rfl ?_
  refine jT_xaload_n (v := (4, 1)) (pcN := 2356) jI_379_2355 rfl rfl rfl ?_
  refine jT_xaload_n (v := (6, 0)) (pcN := 2357) jI_379_2356 rfl rfl rfl ?_
  refine jT_xiload (v := (0, 0)) (pcN := 2359) jI_379_2357 rfl rfl rfl ?_
  refine jT_xiconst (k := 1) (pcN := 2360) jI_379_2359 rfl ?_
  refine jT_xiadd (x := 0) (y := 1) (z := 1) (pcN := 2361) jI_379_2360 rfl (by decide) rfl ?_
  refine jT_adv 1 (pcN := 2362) (LN := [(6, (0, 1)), (5, (0, 0)), (4, (4, 3)), (3, (4, 2)), (2, (4, 1)), (1, (4, 0)), (0, (6, 0))]) (stN := [(0, x1), (4, 1)]) (hsN := jpA_1911) (c1 := 0) (s1 := 0) (c2 := 0) (s2 := 0) (by exact rfl) ?_ (by omega) (by omega)
  refine jT_eq (LN := [(6, (0, 1)), (5, (0, 0)), (4, (4, 3)), (3, (4, 2)), (2, (4, 1)), (1, (4, 0)), (0, (6, 0))]) (stN := [(0, 0), (4, 1)]) (hsN := [jzA_265, jzA_266, jgh, jgh, jgh, jgh, jgh, jgh, jgh, jgh, jgh, jgh, jgh, jgh, jzA_322, (100, [], jS0), jgh, jgh, jgh, jgh, jgh, jgh, jgh, jgh, jgh, jgh, jgh, jgh, jgh, jgh, jgh, (117, [], [35, 36, 37, 38]), jgh, jgh, jgh, (7, [(4, 39), (4, (-1)), (4, (-1))], []), jgh, jgh, jgh, (114, [], [40]), jgh]) (rfl) (by simp only [List.cons.injEq, Prod.mk.injEq, and_true, true_and] <;> ((try unfold jw); (try unfold jwl); omega)) (rfl) ?_
  refine jT_xaload_n (v := (6, 0)) (pcN := 2363) jI_379_2362 rfl rfl rfl ?_
  refine jT_xiload (v := (0, 0)) (pcN := 2365) jI_379_2363 rfl rfl rfl ?_
  refine jT_xiconst (k := 2) (pcN := 2366) jI_379_2365 rfl ?_
  refine jT_xiadd (x := 0) (y := 2) (z := 2) (pcN := 2367) jI_379_2366 rfl (by decide) rfl ?_
  refine jT_adv 1 (pcN := 2368) (LN := [(6, (0, 1)), (5, (0, 0)), (4, (4, 3)), (3, (4, 2)), (2, (4, 1)), (1, (4, 0)), (0, (6, 0))]) (stN := [(0, x2), (0, 0), (4, 1)]) (hsN := jpA_1911) (c1 := 0) (s1 := 0) (c2 := 0) (s2 := 0) (by exact rfl) ?_ (by omega) (by omega)
  refine jT_xaload_n (v := (6, 0)) (pcN := 2369) jI_379_2368 rfl rfl rfl ?_
  refine jT_xiload (v := (0, 0)) (pcN := 2371) jI_379_2369 rfl rfl rfl ?_
  refine jT_xiconst (k := 3) (pcN := 2372) jI_379_2371 rfl ?_
  refine jT_xiadd (x := 0) (y := 3) (z := 3) (pcN := 2373) jI_379_2372 rfl (by decide) rfl ?_
  refine jT_adv 1 (pcN := 2374) (LN := [(6, (0, 1)), (5, (0, 0)), (4, (4, 3)), (3, (4, 2)), (2, (4, 1)), (1, (4, 0)), (0, (6, 0))]) (stN := [(0, x3), (0, x2), (0, 0), (4, 1)]) (hsN := jpA_1911) (c1 := 0) (s1 := 0) (c2 := 0) (s2 := 0) (by exact rfl) ?_ (by omega) (by omega)
  refine jT_eq (LN := [(6, (0, 1)), (5, (0, 0)), (4, (4, 3)), (3, (4, 2)), (2, (4, 1)), (1, (4, 0)), (0, (6, 0))]) (stN := [(0, 0), (0, x2), (0, 0), (4, 1)]) (hsN := [jzA_265, jzA_266, jgh, jgh, jgh, jgh, jgh, jgh, jgh, jgh, jgh, jgh, jgh, jgh, jzA_322, (100, [], jS0), jgh, jgh, jgh, jgh, jgh, jgh, jgh, jgh, jgh, jgh, jgh, jgh, jgh, jgh, jgh, (117, [], [35, 36, 37, 38]), jgh, jgh, jgh, (7, [(4, 39), (4, (-1)), (4, (-1))], []), jgh, jgh, jgh, (114, [], [40]), jgh]) (rfl) (by simp only [List.cons.injEq, Prod.mk.injEq, and_true, true_and] <;> ((try unfold jw); (try unfold jwl); omega)) (rfl) ?_
  refine jT_xifT (pcN := 2381) jI_379_2374 rfl (by decide +kernel) rfl ?_
  refine jT_xiconst (k := 0) (pcN := 2382) jI_379_2381 rfl ?_
  refine jT_fB [1, 15, 16, 17, 18, 19, 20, 21, 22, 23, 24, 25, 26, 27, 28, 29] 41 (y := 279) (pcN := 2385) (dC := 2) (bc1 := 0) (bc2 := 0) (c1 := 0) (c2 := 0) (as := [(4, 1), (0, 0), (0, x2), (0, 0)]) (asC := [(4, 0), (0, 0), (0, x2), (0, 0)]) (LN := [(6, (0, 1)), (5, (0, 0)), (4, (4, 3)), (3, (4, 2)), (2, (4, 1)), (1, (4, 0)), (0, (6, 0))]) (stN := []) (hsC := jpA_1519) (hsD := jpA_1820) (v := (0, 0)) (st2 := [(0, 0)]) (hs2 := jpA_1912) (jA_279_962 (d := 0) (by omega)) (by rfl) (by rfl) (by decide +kernel) (by rfl) (by rfl) (by omega) (by omega) (by omega) (by omega) rfl (by decide +kernel) ?_
  refine jT_xistore (v := (0, 0)) (LN := [(7, (0, 0)), (6, (0, 1)), (5, (0, 0)), (4, (4, 3)), (3, (4, 2)), (2, (4, 1)), (1, (4, 0)), (0, (6, 0))]) (pcN := 2387) jI_379_2385 rfl rfl rfl rfl ?_
  refine jT_xaload_n (v := (4, 1)) (pcN := 2388) jI_379_2387 rfl rfl rfl ?_
  refine jT_fR [1, 15, 16, 17, 18, 19, 20, 21, 22, 23, 24, 25, 26, 27, 28, 29] 41 (y := 186) (pcN := 2391) (dC := 0) (bc1 := 0) (bc2 := 0) (c1 := 0) (c2 := 0) (as := [(4, 1)]) (asC := [(4, 0)]) (LN := [(7, (0, 0)), (6, (0, 1)), (5, (0, 0)), (4, (4, 3)), (3, (4, 2)), (2, (4, 1)), (1, (4, 0)), (0, (6, 0))]) (stN := []) (hsC := jpA_20) (v := (0, 1)) (st2 := [(0, 1)]) (jA_186_8 (d := 0)) (by rfl) (by rfl) (by decide +kernel) (by rfl) (by rfl) (by omega) (by omega) (by omega) (by omega) rfl ?_
  refine jT_xiload (v := (0, 1)) (pcN := 2393) jI_379_2391 rfl rfl rfl ?_
  refine jT_xicT (pcN := 2398) jI_379_2393 rfl (by decide +kernel) rfl ?_
  refine jT_xiload (v := (0, 1)) (pcN := 2400) jI_379_2398 rfl rfl rfl ?_
  refine jT_xifT (pcN := 2415) jI_379_2400 rfl (by decide +kernel) rfl ?_
  refine jT_xgoto (pcN := 3740) jI_379_2415 rfl ?_
  refine jT_xiinc (x := 0) (z := 5) (LN := [(5, (0, 5)), (7, (0, 0)), (6, (0, 1)), (4, (4, 3)), (3, (4, 2)), (2, (4, 1)), (1, (4, 0)), (0, (6, 0))]) (pcN := 3743) jI_379_3740 rfl rfl (by decide) rfl rfl ?_
  refine jT_xgoto (pcN := 28) jI_379_3743 rfl ?_
  refine jT_xiload (v := (0, 5)) (pcN := 30) jI_379_28 rfl rfl rfl ?_
  refine jT_xaload_n (v := (6, 0)) (pcN := 31) jI_379_30 rfl rfl rfl ?_
  refine jT_adv 1 (pcN := 32) (LN := [(5, (0, 5)), (7, (0, 0)), (6, (0, 1)), (4, (4, 3)), (3, (4, 2)), (2, (4, 1)), (1, (4, 0)), (0, (6, 0))]) (stN := [(0, 5), (0, 5)]) (hsN := jpA_1912) (c1 := 0) (s1 := 0) (c2 := 0) (s2 := 0) (by exact rfl) ?_ (by omega) (by omega)
  refine jT_xiconst (k := 5) (pcN := 33) jI_379_32 rfl ?_
  refine jT_xisub (x := 5) (y := 5) (z := 0) (pcN := 34) jI_379_33 rfl (by decide) rfl ?_
  refine jT_xicT (pcN := 3746) jI_379_34 rfl (by decide +kernel) rfl ?_
  refine jT_xiconst (k := 1) (pcN := 3747) jI_379_3746 rfl ?_
  exact jT_ret rfl (by decide) (by show 41 ≤ 41; decide) (by omega) (by omega) ⟨rfl, rfl⟩
def jpA_3717 : List JC := [jzA_265, jzA_266, (101, [], [0]), jgh, (8, [(4, 30), (4, 31)], []), jgh, jgh, jgh, jgh, jgh, jgh, jgh, jgh, jgh, jzA_721, (100, [], jS0), jgh, jgh, jgh, jgh, (130, [], [37, 38, 39, 40, 41, 42]), (101, [], [0, 0, 0, 0, 0, 0]), jgh, jgh, jgh, jgh, jgh, jgh, jgh, jgh, jgh, jgh, jgh, (117, [], [43, 44, 45, 46]), jgh, jgh, jgh, (100, [], (jenc (jlg 0))), jgh, jgh, jgh, jgh, jgh, (7, [(4, 47), (4, (-1)), (4, (-1))], []), jgh, jgh, jgh, (114, [], [48]), (4, [(4, 49), (1, 1)], []), (101, [], [0, 0, 0, 0, 0, 0]), (101, [], [0, 0, 0, 0, 0, 0]), (101, [], [1, 0, 0, 0, 0, 0]), (101, [], [1, 0, 0, 0, 0, 0]), (100, [], (jenc 0)), (100, [], (jenc 1)), (100, [], (jenc (1 * (jlg 0)))), (101, [], [(-1), 0, 0, 0, 0, 0]), (100, [], (jenc 0)), (100, [], (jenc (-1))), (100, [], (jenc ((-1) * (jlg 0))))]
set_option maxRecDepth 100000 in
theorem jL_30_16 {d : Nat} {x0 x1 x2 x3 x4 : Int} (h_x0 : (-2147483648) ≤ x0 ∧ x0 ≤ 2147483647) (h_x1 : 0 ≤ x1 ∧ x1 ≤ 0) (h_x2 : 0 ≤ x2 ∧ x2 ≤ 0) (h_x3 : 0 ≤ x3 ∧ x3 ≤ 0) (h_x4 : (-2147483648) ≤ x4 ∧ x4 ≤ 2147483647) : jT [x0, x1, x2, x3, x4] (d + 9) 379 50 2322 [(5, (0, 0)), (4, (4, 3)), (3, (4, 2)), (2, (4, 1)), (1, (4, 0)), (0, (6, 0))] [] jpA_3697 10 360 (fun k v hsN => k = 0 ∧ v = (0, 1)) := by
  refine jT_xaload_n (v := (4, 0)) (pcN := 2323) jI_379_2322 rfl rfl rfl ?_
  refine jT_xaload_n (v := (6, 0)) (pcN := 2324) jI_379_2323 rfl rfl rfl ?_
  refine jT_xiload (v := (0, 0)) (pcN := 2326) jI_379_2324 rfl rfl rfl ?_
  refine jT_xiconst (k := 1) (pcN := 2327) jI_379_2326 rfl ?_
  refine jT_xiadd (x := 0) (y := 1) (z := 1) (pcN := 2328) jI_379_2327 rfl (by decide) rfl ?_
  refine jT_adv 1 (pcN := 2329) (LN := [(5, (0, 0)), (4, (4, 3)), (3, (4, 2)), (2, (4, 1)), (1, (4, 0)), (0, (6, 0))]) (stN := [(0, x1), (4, 0)]) (hsN := jpA_3697) (c1 := 0) (s1 := 0) (c2 := 10) (s2 := 360) (by exact rfl) ?_ (by omega) (by omega)
  refine jT_eq (LN := [(5, (0, 0)), (4, (4, 3)), (3, (4, 2)), (2, (4, 1)), (1, (4, 0)), (0, (6, 0))]) (stN := [(0, 0), (4, 0)]) (hsN := [jzA_265, jzA_266, (101, [], [0]), jgh, (8, [(4, 30), (4, 31)], []), jgh, jgh, jgh, jgh, jgh, jgh, jgh, jgh, jgh, jzA_721, (100, [], jS0), jgh, jgh, jgh, jgh, (130, [], [37, 38, 39, 40, 41, 42]), (101, [], [0, 0, 0, 0, 0, 0]), jgh, jgh, jgh, jgh, jgh, jgh, jgh, jgh, jgh, jgh, jgh, (117, [], [43, 44, 45, 46]), jgh, jgh, jgh, (100, [], (jenc (jlg 0))), jgh, jgh, jgh, jgh, jgh, (7, [(4, 47), (4, (-1)), (4, (-1))], []), jgh, jgh, jgh, (114, [], [48]), (4, [(4, 49), (1, 1)], []), (101, [], [0, 0, 0, 0, 0, 0])]) (rfl) (by simp only [List.cons.injEq, Prod.mk.injEq, and_true, true_and] <;> ((try unfold jw); (try unfold jwl); omega)) (rfl) ?_
  refine jT_xaload_n (v := (6, 0)) (pcN := 2330) jI_379_2329 rfl rfl rfl ?_
  refine jT_xiload (v := (0, 0)) (pcN := 2332) jI_379_2330 rfl rfl rfl ?_
  refine jT_xiconst (k := 2) (pcN := 2333) jI_379_2332 rfl ?_
  refine jT_xiadd (x := 0) (y := 2) (z := 2) (pcN := 2334) jI_379_2333 rfl (by decide) rfl ?_
  refine jT_adv 1 (pcN := 2335) (LN := [(5, (0, 0)), (4, (4, 3)), (3, (4, 2)), (2, (4, 1)), (1, (4, 0)), (0, (6, 0))]) (stN := [(0, x2), (0, 0), (4, 0)]) (hsN := jpA_3697) (c1 := 0) (s1 := 0) (c2 := 10) (s2 := 360) (by exact rfl) ?_ (by omega) (by omega)
  refine jT_eq (LN := [(5, (0, 0)), (4, (4, 3)), (3, (4, 2)), (2, (4, 1)), (1, (4, 0)), (0, (6, 0))]) (stN := [(0, 0), (0, 0), (4, 0)]) (hsN := [jzA_265, jzA_266, (101, [], [0]), jgh, (8, [(4, 30), (4, 31)], []), jgh, jgh, jgh, jgh, jgh, jgh, jgh, jgh, jgh, jzA_721, (100, [], jS0), jgh, jgh, jgh, jgh, (130, [], [37, 38, 39, 40, 41, 42]), (101, [], [0, 0, 0, 0, 0, 0]), jgh, jgh, jgh, jgh, jgh, jgh, jgh, jgh, jgh, jgh, jgh, (117, [], [43, 44, 45, 46]), jgh, jgh, jgh, (100, [], (jenc (jlg 0))), jgh, jgh, jgh, jgh, jgh, (7, [(4, 47), (4, (-1)), (4, (-1))], []), jgh, jgh, jgh, (114, [], [48]), (4, [(4, 49), (1, 1)], []), (101, [], [0, 0, 0, 0, 0, 0])]) (rfl) (by simp only [List.cons.injEq, Prod.mk.injEq, and_true, true_and] <;> ((try unfold jw); (try unfold jwl); omega)) (rfl) ?_
  refine jT_xaload_n (v := (6, 0)) (pcN := 2336) jI_379_2335 rfl rfl rfl ?_
  refine jT_xiload (v := (0, 0)) (pcN := 2338) jI_379_2336 rfl rfl rfl ?_
  refine jT_xiconst (k := 3) (pcN := 2339) jI_379_2338 rfl ?_
  refine jT_xiadd (x := 0) (y := 3) (z := 3) (pcN := 2340) jI_379_2339 rfl (by decide) rfl ?_
  refine jT_adv 1 (pcN := 2341) (LN := [(5, (0, 0)), (4, (4, 3)), (3, (4, 2)), (2, (4, 1)), (1, (4, 0)), (0, (6, 0))]) (stN := [(0, x3), (0, 0), (0, 0), (4, 0)]) (hsN := jpA_3697) (c1 := 0) (s1 := 0) (c2 := 10) (s2 := 360) (by exact rfl) ?_ (by omega) (by omega)
  refine jT_eq (LN := [(5, (0, 0)), (4, (4, 3)), (3, (4, 2)), (2, (4, 1)), (1, (4, 0)), (0, (6, 0))]) (stN := [(0, 0), (0, 0), (0, 0), (4, 0)]) (hsN := [jzA_265, jzA_266, (101, [], [0]), jgh, (8, [(4, 30), (4, 31)], []), jgh, jgh, jgh, jgh, jgh, jgh, jgh, jgh, jgh, jzA_721, (100, [], jS0), jgh, jgh, jgh, jgh, (130, [], [37, 38, 39, 40, 41, 42]), (101, [], [0, 0, 0, 0, 0, 0]), jgh, jgh, jgh, jgh, jgh, jgh, jgh, jgh, jgh, jgh, jgh, (117, [], [43, 44, 45, 46]), jgh, jgh, jgh, (100, [], (jenc (jlg 0))), jgh, jgh, jgh, jgh, jgh, (7, [(4, 47), (4, (-1)), (4, (-1))], []), jgh, jgh, jgh, (114, [], [48]), (4, [(4, 49), (1, 1)], []), (101, [], [0, 0, 0, 0, 0, 0])]) (rfl) (by simp only [List.cons.injEq, Prod.mk.injEq, and_true, true_and] <;> ((try unfold jw); (try unfold jwl); omega)) (rfl) ?_
  refine jT_xifT (pcN := 2348) jI_379_2341 rfl (by decide +kernel) rfl ?_
  refine jT_xiconst (k := 0) (pcN := 2349) jI_379_2348 rfl ?_
  refine jT_xaload_n (v := (4, 2)) (pcN := 2350) jI_379_2349 rfl rfl rfl ?_
  refine jT_fR [0, 2, 4, 5, 6, 7, 8, 9, 10, 11, 12, 13, 14, 30, 31, 32, 33, 34, 35, 36, 43, 44, 45, 46, 47, 48, 49] 50 (y := 354) (pcN := 2353) (dC := 5) (bc1 := 0) (bc2 := 0) (c1 := 10) (c2 := 360) (as := [(4, 0), (0, 0), (0, 0), (0, 0), (4, 2)]) (asC := [(4, 0), (0, 0), (0, 0), (0, 0), (4, 1)]) (LN := [(5, (0, 0)), (4, (4, 3)), (3, (4, 2)), (2, (4, 1)), (1, (4, 0)), (0, (6, 0))]) (stN := []) (hsC := jpA_3615) (v := (0, 0)) (st2 := [(0, 0)]) (jA_354_967 (d := 0)) (by rfl) (by rfl) (by decide +kernel) (by rfl) (by rfl) (by omega) (by omega) (by omega) (by omega) rfl ?_
  refine jT_xistore (v := (0, 0)) (LN := [(6, (0, 0)), (5, (0, 0)), (4, (4, 3)), (3, (4, 2)), (2, (4, 1)), (1, (4, 0)), (0, (6, 0))]) (pcN := 2355) jI_379_2353 rfl rfl rfl rfl ?_
  refine jT_xaload_n (v := (4, 1)) (pcN := 2356) jI_379_2355 rfl rfl rfl ?_
  refine jT_xaload_n (v := (6, 0)) (pcN := 2357) jI_379_2356 rfl rfl rfl ?_
  refine jT_xiload (v := (0, 0)) (pcN := 2359) jI_379_2357 rfl rfl rfl ?_
  refine jT_xiconst (k := 1) (pcN := 2360) jI_379_2359 rfl ?_
  refine jT_xiadd (x := 0) (y := 1) (z := 1) (pcN := 2361) jI_379_2360 rfl (by decide) rfl ?_
  refine jT_adv 1 (pcN := 2362) (LN := [(6, (0, 0)), (5, (0, 0)), (4, (4, 3)), (3, (4, 2)), (2, (4, 1)), (1, (4, 0)), (0, (6, 0))]) (stN := [(0, x1), (4, 1)]) (hsN := jpA_3697) (c1 := 0) (s1 := 0) (c2 := 10) (s2 := 360) (by exact rfl) ?_ (by omega) (by omega)
  refine jT_eq (LN := [(6, (0, 0)), (5, (0, 0)), (4, (4, 3)), (3, (4, 2)), (2, (4, 1)), (1, (4, 0)), (0, (6, 0))]) (stN := [(0, 0), (4, 1)]) (hsN := [jzA_265, jzA_266, (101, [], [0]), jgh, (8, [(4, 30), (4, 31)], []), jgh, jgh, jgh, jgh, jgh, jgh, jgh, jgh, jgh, jzA_721, (100, [], jS0), jgh, jgh, jgh, jgh, (130, [], [37, 38, 39, 40, 41, 42]), (101, [], [0, 0, 0, 0, 0, 0]), jgh, jgh, jgh, jgh, jgh, jgh, jgh, jgh, jgh, jgh, jgh, (117, [], [43, 44, 45, 46]), jgh, jgh, jgh, (100, [], (jenc (jlg 0))), jgh, jgh, jgh, jgh, jgh, (7, [(4, 47), (4, (-1)), (4, (-1))], []), jgh, jgh, jgh, (114, [], [48]), (4, [(4, 49), (1, 1)], []), (101, [], [0, 0, 0, 0, 0, 0])]) (rfl) (by simp only [List.cons.injEq, Prod.mk.injEq, and_true, true_and] <;> ((try unfold jw); (try unfold jwl); omega)) (rfl) ?_
  refine jT_xaload_n (v := (6, 0)) (pcN := 2363) jI_379_2362 rfl rfl rfl ?_
  refine jT_xiload (v := (0, 0)) (pcN := 2365) jI_379_2363 rfl rfl rfl ?_
  refine jT_xiconst (k := 2) (pcN := 2366) jI_379_2365 rfl ?_
  refine jT_xiadd (x := 0) (y := 2) (z := 2) (pcN := 2367) jI_379_2366 rfl (by decide) rfl ?_
  refine jT_adv 1 (pcN := 2368) (LN := [(6, (0, 0)), (5, (0, 0)), (4, (4, 3)), (3, (4, 2)), (2, (4, 1)), (1, (4, 0)), (0, (6, 0))]) (stN := [(0, x2), (0, 0), (4, 1)]) (hsN := jpA_3697) (c1 := 0) (s1 := 0) (c2 := 10) (s2 := 360) (by exact rfl) ?_ (by omega) (by omega)
  refine jT_eq (LN := [(6, (0, 0)), (5, (0, 0)), (4, (4, 3)), (3, (4, 2)), (2, (4, 1)), (1, (4, 0)), (0, (6, 0))]) (stN := [(0, 0), (0, 0), (4, 1)]) (hsN := [jzA_265, jzA_266, (101, [], [0]), jgh, (8, [(4, 30), (4, 31)], []), jgh, jgh, jgh, jgh, jgh, jgh, jgh, jgh, jgh, jzA_721, (100, [], jS0), jgh, jgh, jgh, jgh, (130, [], [37, 38, 39, 40, 41, 42]), (101, [], [0, 0, 0, 0, 0, 0]), jgh, jgh, jgh, jgh, jgh, jgh, jgh, jgh, jgh, jgh, jgh, (117, [], [43, 44, 45, 46]), jgh, jgh, jgh, (100, [], (jenc (jlg 0))), jgh, jgh, jgh, jgh, jgh, (7, [(4, 47), (4, (-1)), (4, (-1))], []), jgh, jgh, jgh, (114, [], [48]), (4, [(4, 49), (1, 1)], []), (101, [], [0, 0, 0, 0, 0, 0])]) (rfl) (by simp only [List.cons.injEq, Prod.mk.injEq, and_true, true_and] <;> ((try unfold jw); (try unfold jwl); omega)) (rfl) ?_
  refine jT_xaload_n (v := (6, 0)) (pcN := 2369) jI_379_2368 rfl rfl rfl ?_
  refine jT_xiload (v := (0, 0)) (pcN := 2371) jI_379_2369 rfl rfl rfl ?_
  refine jT_xiconst (k := 3) (pcN := 2372) jI_379_2371 rfl ?_
  refine jT_xiadd (x := 0) (y := 3) (z := 3) (pcN := 2373) jI_379_2372 rfl (by decide) rfl ?_
  refine jT_adv 1 (pcN := 2374) (LN := [(6, (0, 0)), (5, (0, 0)), (4, (4, 3)), (3, (4, 2)), (2, (4, 1)), (1, (4, 0)), (0, (6, 0))]) (stN := [(0, x3), (0, 0), (0, 0), (4, 1)]) (hsN := jpA_3697) (c1 := 0) (s1 := 0) (c2 := 10) (s2 := 360) (by exact rfl) ?_ (by omega) (by omega)
  refine jT_eq (LN := [(6, (0, 0)), (5, (0, 0)), (4, (4, 3)), (3, (4, 2)), (2, (4, 1)), (1, (4, 0)), (0, (6, 0))]) (stN := [(0, 0), (0, 0), (0, 0), (4, 1)]) (hsN := [jzA_265, jzA_266, (101, [], [0]), jgh, (8, [(4, 30), (4, 31)], []), jgh, jgh, jgh, jgh, jgh, jgh, jgh, jgh, jgh, jzA_721, (100, [], jS0), jgh, jgh, jgh, jgh, (130, [], [37, 38, 39, 40, 41, 42]), (101, [], [0, 0, 0, 0, 0, 0]), jgh, jgh, jgh, jgh, jgh, jgh, jgh, jgh, jgh, jgh, jgh, (117, [], [43, 44, 45, 46]), jgh, jgh, jgh, (100, [], (jenc (jlg 0))), jgh, jgh, jgh, jgh, jgh, (7, [(4, 47), (4, (-1)), (4, (-1))], []), jgh, jgh, jgh, (114, [], [48]), (4, [(4, 49), (1, 1)], []), (101, [], [0, 0, 0, 0, 0, 0])]) (rfl) (by simp only [List.cons.injEq, Prod.mk.injEq, and_true, true_and] <;> ((try unfold jw); (try unfold jwl); omega)) (rfl) ?_
  refine jT_xifT (pcN := 2381) jI_379_2374 rfl (by decide +kernel) rfl ?_
  refine jT_xiconst (k := 0) (pcN := 2382) jI_379_2381 rfl ?_
  refine jT_fA [1, 15, 16, 17, 18, 19, 20, 21, 22, 23, 24, 25, 26, 27, 28, 29, 37, 38, 39, 40, 41, 42] 50 (y := 279) (pcN := 2385) (dC := 8) (bc1 := 10) (bc2 := 360) (c1 := 0) (c2 := 0) (as := [(4, 1), (0, 0), (0, 0), (0, 0)]) (asC := [(4, 0), (0, 0), (0, 0), (0, 0)]) (LN := [(6, (0, 0)), (5, (0, 0)), (4, (4, 3)), (3, (4, 2)), (2, (4, 1)), (1, (4, 0)), (0, (6, 0))]) (stN := []) (hsC := jpA_1695) (ex := jpA_3654) (v := (0, 0)) (st2 := [(0, 0)]) (hs2 := jpA_3717) (jA_279_970 (d := 0)) (by rfl) (by rfl) (by decide +kernel) (by rfl) (by rfl) (by omega) (by omega) (by omega) (by omega) rfl (by decide +kernel) ?_
  refine jT_xistore (v := (0, 0)) (LN := [(7, (0, 0)), (6, (0, 0)), (5, (0, 0)), (4, (4, 3)), (3, (4, 2)), (2, (4, 1)), (1, (4, 0)), (0, (6, 0))]) (pcN := 2387) jI_379_2385 rfl rfl rfl rfl ?_
  refine jT_xaload_n (v := (4, 1)) (pcN := 2388) jI_379_2387 rfl rfl rfl ?_
  refine jT_fR [1, 15, 16, 17, 18, 19, 20, 21, 22, 23, 24, 25, 26, 27, 28, 29] 60 (y := 186) (pcN := 2391) (dC := 0) (bc1 := 0) (bc2 := 0) (c1 := 0) (c2 := 0) (as := [(4, 1)]) (asC := [(4, 0)]) (LN := [(7, (0, 0)), (6, (0, 0)), (5, (0, 0)), (4, (4, 3)), (3, (4, 2)), (2, (4, 1)), (1, (4, 0)), (0, (6, 0))]) (stN := []) (hsC := jpA_22) (v := (0, 0)) (st2 := [(0, 0)]) (jA_186_726 (d := 0)) (by rfl) (by rfl) (by decide +kernel) (by rfl) (by rfl) (by omega) (by omega) (by omega) (by omega) rfl ?_
  refine jT_xiload (v := (0, 0)) (pcN := 2393) jI_379_2391 rfl rfl rfl ?_
  refine jT_xicT (pcN := 2398) jI_379_2393 rfl (by decide +kernel) rfl ?_
  refine jT_xiload (v := (0, 0)) (pcN := 2400) jI_379_2398 rfl rfl rfl ?_
  refine jT_xifF (t := 2415) (pcN := 2403) jI_379_2400 rfl (by decide +kernel) rfl rfl ?_
  refine jT_xaload_n (v := (4, 2)) (pcN := 2404) jI_379_2403 rfl rfl rfl ?_
  refine jT_xiconst (k := 0) (pcN := 2405) jI_379_2404 rfl ?_
  refine jT_lald (x := 0) (a := 2) (j := 0) (fs := []) (X := [0]) jI_379_2405 rfl rfl rfl rfl ?_
  refine jT_eq (LN := [(7, (0, 0)), (6, (0, 0)), (5, (0, 0)), (4, (4, 3)), (3, (4, 2)), (2, (4, 1)), (1, (4, 0)), (0, (6, 0))]) (stN := [(1, 0)]) (hsN := jpA_3717) rfl rfl rfl ?_
  refine jT_xiload (v := (0, 0)) (pcN := 2408) jI_379_2406 rfl rfl rfl ?_
  refine jT_xi2l (x := 0) (z := 0) (pcN := 2409) jI_379_2408 rfl (by decide +kernel) rfl ?_
  refine jT_lcmp (a := 0) (b := 0) (z := 0) (by rfl) (by rfl) (by decide +kernel) (by decide +kernel) (by decide) ?_
  refine jT_xifT (pcN := 2415) jI_379_2410 rfl (by decide +kernel) rfl ?_
  refine jT_xgoto (pcN := 3740) jI_379_2415 rfl ?_
  refine jT_xiinc (x := 0) (z := 5) (LN := [(5, (0, 5)), (7, (0, 0)), (6, (0, 0)), (4, (4, 3)), (3, (4, 2)), (2, (4, 1)), (1, (4, 0)), (0, (6, 0))]) (pcN := 3743) jI_379_3740 rfl rfl (by decide) rfl rfl ?_
  refine jT_xgoto (pcN := 28) jI_379_3743 rfl ?_
  refine jT_xiload (v := (0, 5)) (pcN := 30) jI_379_28 rfl rfl rfl ?_
  refine jT_xaload_n (v := (6, 0)) (pcN := 31) jI_379_30 rfl rfl rfl ?_
  refine jT_adv 1 (pcN := 32) (LN := [(5, (0, 5)), (7, (0, 0)), (6, (0, 0)), (4, (4, 3)), (3, (4, 2)), (2, (4, 1)), (1, (4, 0)), (0, (6, 0))]) (stN := [(0, 5), (0, 5)]) (hsN := jpA_3717) (c1 := 0) (s1 := 0) (c2 := 0) (s2 := 0) (by exact rfl) ?_ (by omega) (by omega)
  refine jT_xiconst (k := 5) (pcN := 33) jI_379_32 rfl ?_
  refine jT_xisub (x := 5) (y := 5) (z := 0) (pcN := 34) jI_379_33 rfl (by decide) rfl ?_
  refine jT_xicT (pcN := 3746) jI_379_34 rfl (by decide +kernel) rfl ?_
  refine jT_xiconst (k := 1) (pcN := 3747) jI_379_3746 rfl ?_
  exact jT_ret rfl (by decide) (by show 50 ≤ 60; decide) (by omega) (by omega) ⟨rfl, rfl⟩
set_option maxRecDepth 100000 in
theorem jL_30_17 {d : Nat} {x0 x1 x2 x3 x4 : Int} (h_x0 : (-2147483648) ≤ x0 ∧ x0 ≤ 2147483647) (h_x1 : 0 ≤ x1 ∧ x1 ≤ 0) (h_x2 : 1 ≤ x2 ∧ x2 ≤ 2147483647) (h_x3 : 0 ≤ x3 ∧ x3 ≤ 0) (h_x4 : (-2147483648) ≤ x4 ∧ x4 ≤ 2147483647) : jT [x0, x1, x2, x3, x4] (d + 3) 379 41 2322 [(5, (0, 0)), (4, (4, 3)), (3, (4, 2)), (2, (4, 1)), (1, (4, 0)), (0, (6, 0))] [] jpA_1911 1 6 (fun k v hsN => k = 0 ∧ v = (0, 1)) := by
  refine jT_xaload_n (v := (4, 0)) (pcN := 2323) jI_379_2322 rfl rfl rfl ?_
  refine jT_xaload_n (v := (6, 0)) (pcN := 2324) jI_379_2323 rfl rfl rfl ?_
  refine jT_xiload (v := (0, 0)) (pcN := 2326) jI_379_2324 rfl rfl rfl ?_
  refine jT_xiconst (k := 1) (pcN := 2327) jI_379_2326 rfl ?_
  refine jT_xiadd (x := 0) (y := 1) (z := 1) (pcN := 2328) jI_379_2327 rfl (by decide) rfl ?_
  refine jT_adv 1 (pcN := 2329) (LN := [(5, (0, 0)), (4, (4, 3)), (3, (4, 2)), (2, (4, 1)), (1, (4, 0)), (0, (6, 0))]) (stN := [(0, x1), (4, 0)]) (hsN := jpA_1911) (c1 := 0) (s1 := 0) (c2 := 1) (s2 := 6) (by exact rfl) ?_ (by omega) (by omega)
  refine jT_eq (LN := [(5, (0, 0)), (4, (4, 3)), (3, (4, 2)), (2, (4, 1)), (1, (4, 0)), (0, (6, 0))]) (stN := [(0, 0), (4, 0)]) (hsN := [jzA_265, jzA_266, jgh, jgh, jgh, jgh, jgh, jgh, jgh, jgh, jgh, jgh, jgh, jgh, jzA_322, (100, [], jS0), jgh, jgh, jgh, jgh, jgh, jgh, jgh, jgh, jgh, jgh, jgh, jgh, jgh, jgh, jgh, (117, [], [35, 36, 37, 38]), jgh, jgh, jgh, (7, [(4, 39), (4, (-1)), (4, (-1))], []), jgh, jgh, jgh, (114, [], [40]), jgh]) (rfl) (by simp only [List.cons.injEq, Prod.mk.injEq, and_true, true_and] <;> ((try unfold jw); (try unfold jwl); omega)) (rfl) ?_
  refine jT_xaload_n (v := (6, 0)) (pcN := 2330) jI_379_2329 rfl rfl rfl ?_
  refine jT_xiload (v := (0, 0)) (pcN := 2332) jI_379_2330 rfl rfl rfl ?_
  refine jT_xiconst (k := 2) (pcN := 2333) jI_379_2332 rfl ?_
  refine jT_xiadd (x := 0) (y := 2) (z := 2) (pcN := 2334) jI_379_2333 rfl (by decide) rfl ?_
  refine jT_adv 1 (pcN := 2335) (LN := [(5, (0, 0)), (4, (4, 3)), (3, (4, 2)), (2, (4, 1)), (1, (4, 0)), (0, (6, 0))]) (stN := [(0, x2), (0, 0), (4, 0)]) (hsN := jpA_1911) (c1 := 0) (s1 := 0) (c2 := 1) (s2 := 6) (by exact rfl) ?_ (by omega) (by omega)
  refine jT_xaload_n (v := (6, 0)) (pcN := 2336) jI_379_2335 rfl rfl rfl ?_
  refine jT_xiload (v := (0, 0)) (pcN := 2338) jI_379_2336 rfl rfl rfl ?_
  refine jT_xiconst (k := 3) (pcN := 2339) jI_379_2338 rfl ?_
  refine jT_xiadd (x := 0) (y := 3) (z := 3) (pcN := 2340) jI_379_2339 rfl (by decide) rfl ?_
  refine jT_adv 1 (pcN := 2341) (LN := [(5, (0, 0)), (4, (4, 3)), (3, (4, 2)), (2, (4, 1)), (1, (4, 0)), (0, (6, 0))]) (stN := [(0, x3), (0, x2), (0, 0), (4, 0)]) (hsN := jpA_1911) (c1 := 0) (s1 := 0) (c2 := 1) (s2 := 6) (by exact rfl) ?_ (by omega) (by omega)
  refine jT_eq (LN := [(5, (0, 0)), (4, (4, 3)), (3, (4, 2)), (2, (4, 1)), (1, (4, 0)), (0, (6, 0))]) (stN := [(0, 0), (0, x2), (0, 0), (4, 0)]) (hsN := [jzA_265, jzA_266, jgh, jgh, jgh, jgh, jgh, jgh, jgh, jgh, jgh, jgh, jgh, jgh, jzA_322, (100, [], jS0), jgh, jgh, jgh, jgh, jgh, jgh, jgh, jgh, jgh, jgh, jgh, jgh, jgh, jgh, jgh, (117, [], [35, 36, 37, 38]), jgh, jgh, jgh, (7, [(4, 39), (4, (-1)), (4, (-1))], []), jgh, jgh, jgh, (114, [], [40]), jgh]) (rfl) (by simp only [List.cons.injEq, Prod.mk.injEq, and_true, true_and] <;> ((try unfold jw); (try unfold jwl); omega)) (rfl) ?_
  refine jT_xifT (pcN := 2348) jI_379_2341 rfl (by decide +kernel) rfl ?_
  refine jT_xiconst (k := 0) (pcN := 2349) jI_379_2348 rfl ?_
  refine jT_xaload_n (v := (4, 2)) (pcN := 2350) jI_379_2349 rfl rfl rfl ?_
  refine jT_fR [0, 2, 4, 5, 6, 7, 8, 9, 10, 11, 12, 13, 14, 30, 31, 32, 33, 34, 35, 36, 37, 38, 39, 40] 41 (y := 354) (pcN := 2353) (dC := 2) (bc1 := 1) (bc2 := 6) (c1 := 0) (c2 := 0) (as := [(4, 0), (0, 0), (0, x2), (0, 0), (4, 2)]) (asC := [(4, 0), (0, 0), (0, x2), (0, 0), (4, 1)]) (LN := [(5, (0, 0)), (4, (4, 3)), (3, (4, 2)), (2, (4, 1)), (1, (4, 0)), (0, (6, 0))]) (stN := []) (hsC := jpA_1806) (v := (0, 1)) (st2 := [(0, 1)]) (jA_354_972 (d := 0) (by omega)) (by rfl) (by rfl) (by decide +kernel) (by rfl) (by rfl) (by omega) (by omega) (by omega) (by omega) rfl ?_
  refine jT_xistore (v := (0, 1)) (LN := [(6, (0, 1)), (5, (0, 0)), (4, (4, 3)), (3, (4, 2)), (2, (4, 1)), (1, (4, 0)), (0, (6, 0))]) (pcN := 2355) jI_379_2353 rfl rfl rfl rfl ?_
  refine jT_xaload_n (v := (4, 1)) (pcN := 2356) jI_379_2355 rfl rfl rfl ?_
  refine jT_xaload_n (v := (6, 0)) (pcN := 2357) jI_379_2356 rfl rfl rfl ?_
  refine jT_xiload (v := (0, 0)) (pcN := 2359) jI_379_2357 rfl rfl rfl ?_
  refine jT_xiconst (k := 1) (pcN := 2360) jI_379_2359 rfl ?_
  refine jT_xiadd (x := 0) (y := 1) (z := 1) (pcN := 2361) jI_379_2360 rfl (by decide) rfl ?_
  refine jT_adv 1 (pcN := 2362) (LN := [(6, (0, 1)), (5, (0, 0)), (4, (4, 3)), (3, (4, 2)), (2, (4, 1)), (1, (4, 0)), (0, (6, 0))]) (stN := [(0, x1), (4, 1)]) (hsN := jpA_1911) (c1 := 0) (s1 := 0) (c2 := 0) (s2 := 0) (by exact rfl) ?_ (by omega) (by omega)
  refine jT_eq (LN := [(6, (0, 1)), (5, (0, 0)), (4, (4, 3)), (3, (4, 2)), (2, (4, 1)), (1, (4, 0)), (0, (6, 0))]) (stN := [(0, 0), (4, 1)]) (hsN := [jzA_265, jzA_266, jgh, jgh, jgh, jgh, jgh, jgh, jgh, jgh, jgh, jgh, jgh, jgh, jzA_322, (100, [], jS0), jgh, jgh, jgh, jgh, jgh, jgh, jgh, jgh, jgh, jgh, jgh, jgh, jgh, jgh, jgh, (117, [], [35, 36, 37, 38]), jgh, jgh, jgh, (7, [(4, 39), (4, (-1)), (4, (-1))], []), jgh, jgh, jgh, (114, [], [40]), jgh]) (rfl) (by simp only [List.cons.injEq, Prod.mk.injEq, and_true, true_and] <;> ((try unfold jw); (try unfold jwl); omega)) (rfl) ?_
  refine jT_xaload_n (v := (6, 0)) (pcN := 2363) jI_379_2362 rfl rfl rfl ?_
  refine jT_xiload (v := (0, 0)) (pcN := 2365) jI_379_2363 rfl rfl rfl ?_
  refine jT_xiconst (k := 2) (pcN := 2366) jI_379_2365 rfl ?_
  refine jT_xiadd (x := 0) (y := 2) (z := 2) (pcN := 2367) jI_379_2366 rfl (by decide) rfl ?_
  refine jT_adv 1 (pcN := 2368) (LN := [(6, (0, 1)), (5, (0, 0)), (4, (4, 3)), (3, (4, 2)), (2, (4, 1)), (1, (4, 0)), (0, (6, 0))]) (stN := [(0, x2), (0, 0), (4, 1)]) (hsN := jpA_1911) (c1 := 0) (s1 := 0) (c2 := 0) (s2 := 0) (by exact rfl) ?_ (by omega) (by omega)
  refine jT_xaload_n (v := (6, 0)) (pcN := 2369) jI_379_2368 rfl rfl rfl ?_
  refine jT_xiload (v := (0, 0)) (pcN := 2371) jI_379_2369 rfl rfl rfl ?_
  refine jT_xiconst (k := 3) (pcN := 2372) jI_379_2371 rfl ?_
  refine jT_xiadd (x := 0) (y := 3) (z := 3) (pcN := 2373) jI_379_2372 rfl (by decide) rfl ?_
  refine jT_adv 1 (pcN := 2374) (LN := [(6, (0, 1)), (5, (0, 0)), (4, (4, 3)), (3, (4, 2)), (2, (4, 1)), (1, (4, 0)), (0, (6, 0))]) (stN := [(0, x3), (0, x2), (0, 0), (4, 1)]) (hsN := jpA_1911) (c1 := 0) (s1 := 0) (c2 := 0) (s2 := 0) (by exact rfl) ?_ (by omega) (by omega)
  refine jT_eq (LN := [(6, (0, 1)), (5, (0, 0)), (4, (4, 3)), (3, (4, 2)), (2, (4, 1)), (1, (4, 0)), (0, (6, 0))]) (stN := [(0, 0), (0, x2), (0, 0), (4, 1)]) (hsN := [jzA_265, jzA_266, jgh, jgh, jgh, jgh, jgh, jgh, jgh, jgh, jgh, jgh, jgh, jgh, jzA_322, (100, [], jS0), jgh, jgh, jgh, jgh, jgh, jgh, jgh, jgh, jgh, jgh, jgh, jgh, jgh, jgh, jgh, (117, [], [35, 36, 37, 38]), jgh, jgh, jgh, (7, [(4, 39), (4, (-1)), (4, (-1))], []), jgh, jgh, jgh, (114, [], [40]), jgh]) (rfl) (by simp only [List.cons.injEq, Prod.mk.injEq, and_true, true_and] <;> ((try unfold jw); (try unfold jwl); omega)) (rfl) ?_
  refine jT_xifT (pcN := 2381) jI_379_2374 rfl (by decide +kernel) rfl ?_
  refine jT_xiconst (k := 0) (pcN := 2382) jI_379_2381 rfl ?_
  refine jT_fB [1, 15, 16, 17, 18, 19, 20, 21, 22, 23, 24, 25, 26, 27, 28, 29] 41 (y := 279) (pcN := 2385) (dC := 2) (bc1 := 0) (bc2 := 0) (c1 := 0) (c2 := 0) (as := [(4, 1), (0, 0), (0, x2), (0, 0)]) (asC := [(4, 0), (0, 0), (0, x2), (0, 0)]) (LN := [(6, (0, 1)), (5, (0, 0)), (4, (4, 3)), (3, (4, 2)), (2, (4, 1)), (1, (4, 0)), (0, (6, 0))]) (stN := []) (hsC := jpA_1519) (hsD := jpA_1820) (v := (0, 0)) (st2 := [(0, 0)]) (hs2 := jpA_1912) (jA_279_973 (d := 0) (by omega)) (by rfl) (by rfl) (by decide +kernel) (by rfl) (by rfl) (by omega) (by omega) (by omega) (by omega) rfl (by decide +kernel) ?_
  refine jT_xistore (v := (0, 0)) (LN := [(7, (0, 0)), (6, (0, 1)), (5, (0, 0)), (4, (4, 3)), (3, (4, 2)), (2, (4, 1)), (1, (4, 0)), (0, (6, 0))]) (pcN := 2387) jI_379_2385 rfl rfl rfl rfl ?_
  refine jT_xaload_n (v := (4, 1)) (pcN := 2388) jI_379_2387 rfl rfl rfl ?_
  refine jT_fR [1, 15, 16, 17, 18, 19, 20, 21, 22, 23, 24, 25, 26, 27, 28, 29] 41 (y := 186) (pcN := 2391) (dC := 0) (bc1 := 0) (bc2 := 0) (c1 := 0) (c2 := 0) (as := [(4, 1)]) (asC := [(4, 0)]) (LN := [(7, (0, 0)), (6, (0, 1)), (5, (0, 0)), (4, (4, 3)), (3, (4, 2)), (2, (4, 1)), (1, (4, 0)), (0, (6, 0))]) (stN := []) (hsC := jpA_20) (v := (0, 1)) (st2 := [(0, 1)]) (jA_186_8 (d := 0)) (by rfl) (by rfl) (by decide +kernel) (by rfl) (by rfl) (by omega) (by omega) (by omega) (by omega) rfl ?_
  refine jT_xiload (v := (0, 1)) (pcN := 2393) jI_379_2391 rfl rfl rfl ?_
  refine jT_xicT (pcN := 2398) jI_379_2393 rfl (by decide +kernel) rfl ?_
  refine jT_xiload (v := (0, 1)) (pcN := 2400) jI_379_2398 rfl rfl rfl ?_
  refine jT_xifT (pcN := 2415) jI_379_2400 rfl (by decide +kernel) rfl ?_
  refine jT_xgoto (pcN := 3740) jI_379_2415 rfl ?_
  refine jT_xiinc (x := 0) (z := 5) (LN := [(5, (0, 5)), (7, (0, 0)), (6, (0, 1)), (4, (4, 3)), (3, (4, 2)), (2, (4, 1)), (1, (4, 0)), (0, (6, 0))]) (pcN := 3743) jI_379_3740 rfl rfl (by decide) rfl rfl ?_
  refine jT_xgoto (pcN := 28) jI_379_3743 rfl ?_
  refine jT_xiload (v := (0, 5)) (pcN := 30) jI_379_28 rfl rfl rfl ?_
  refine jT_xaload_n (v := (6, 0)) (pcN := 31) jI_379_30 rfl rfl rfl ?_
  refine jT_adv 1 (pcN := 32) (LN := [(5, (0, 5)), (7, (0, 0)), (6, (0, 1)), (4, (4, 3)), (3, (4, 2)), (2, (4, 1)), (1, (4, 0)), (0, (6, 0))]) (stN := [(0, 5), (0, 5)]) (hsN := jpA_1912) (c1 := 0) (s1 := 0) (c2 := 0) (s2 := 0) (by exact rfl) ?_ (by omega) (by omega)
  refine jT_xiconst (k := 5) (pcN := 33) jI_379_32 rfl ?_
  refine jT_xisub (x := 5) (y := 5) (z := 0) (pcN := 34) jI_379_33 rfl (by decide) rfl ?_
  refine jT_xicT (pcN := 3746) jI_379_34 rfl (by decide +kernel) rfl ?_
  refine jT_xiconst (k := 1) (pcN := 3747) jI_379_3746 rfl ?_
  exact jT_ret rfl (by decide) (by show 41 ≤ 41; decide) (by omega) (by omega) ⟨rfl, rfl⟩
set_option maxRecDepth 100000 in
theorem jL_30_18 {d : Nat} {x0 x1 x2 x3 x4 : Int} (h_x0 : (-2147483648) ≤ x0 ∧ x0 ≤ 2147483647) (h_x1 : 1 ≤ x1 ∧ x1 ≤ 1) (h_x2 : (-2147483648) ≤ x2 ∧ x2 ≤ (-1)) (h_x3 : 0 ≤ x3 ∧ x3 ≤ 0) (h_x4 : (-2147483648) ≤ x4 ∧ x4 ≤ 2147483647) : jT [x0, x1, x2, x3, x4] (d + 3) 379 41 2322 [(5, (0, 0)), (4, (4, 3)), (3, (4, 2)), (2, (4, 1)), (1, (4, 0)), (0, (6, 0))] [] jpA_1923 1 6 (fun k v hsN => k = 0 ∧ v = (0, 1)) := by
  refine jT_xaload_n (v := (4, 0)) (pcN := 2323) jI_379_2322 rfl rfl rfl ?_
  refine jT_xaload_n (v := (6, 0)) (pcN := 2324) jI_379_2323 rfl rfl rfl ?_
  refine jT_xiload (v := (0, 0)) (pcN := 2326) jI_379_2324 rfl rfl rfl ?_
  refine jT_xiconst (k := 1) (pcN := 2327) jI_379_2326 rfl ?_
  refine jT_xiadd (x := 0) (y := 1) (z := 1) (pcN := 2328) jI_379_2327 rfl (by decide) rfl ?_
  refine jT_adv 1 (pcN := 2329) (LN := [(5, (0, 0)), (4, (4, 3)), (3, (4, 2)), (2, (4, 1)), (1, (4, 0)), (0, (6, 0))]) (stN := [(0, x1), (4, 0)]) (hsN := jpA_1923) (c1 := 0) (s1 := 0) (c2 := 1) (s2 := 6) (by exact rfl) ?_ (by omega) (by omega)
  refine jT_eq (LN := [(5, (0, 0)), (4, (4, 3)), (3, (4, 2)), (2, (4, 1)), (1, (4, 0)), (0, (6, 0))]) (stN := [(0, 1), (4, 0)]) (hsN := [jzA_265, jzA_266, jgh, jgh, jgh, jgh, jgh, jgh, jgh, jgh, jgh, jgh, jgh, jgh, jzA_322, (100, [], jS0), jgh, jgh, jgh, jgh, jgh, jgh, jgh, jgh, jgh, jgh, jgh, jgh, jgh, jgh, jgh, (117, [], [35, 36, 37, 38]), jgh, jgh, jgh, jgh, (7, [(4, 39), (4, (-1)), (4, (-1))], []), jgh, jgh, (114, [], [40]), jgh]) (rfl) (by simp only [List.cons.injEq, Prod.mk.injEq, and_true, true_and] <;> ((try unfold jw); (try unfold jwl); omega)) (rfl) ?_
  refine jT_xaload_n (v := (6, 0)) (pcN := 2330) jI_379_2329 rfl rfl rfl ?_
  refine jT_xiload (v := (0, 0)) (pcN := 2332) jI_379_2330 rfl rfl rfl ?_
  refine jT_xiconst (k := 2) (pcN := 2333) jI_379_2332 rfl ?_
  refine jT_xiadd (x := 0) (y := 2) (z := 2) (pcN := 2334) jI_379_2333 rfl (by decide) rfl ?_
  refine jT_adv 1 (pcN := 2335) (LN := [(5, (0, 0)), (4, (4, 3)), (3, (4, 2)), (2, (4, 1)), (1, (4, 0)), (0, (6, 0))]) (stN := [(0, x2), (0, 1), (4, 0)]) (hsN := jpA_1923) (c1 := 0) (s1 := 0) (c2 := 1) (s2 := 6) (by exact rfl) ?_ (by omega) (by omega)
  refine jT_xaload_n (v := (6, 0)) (pcN := 2336) jI_379_2335 rfl rfl rfl ?_
  refine jT_xiload (v := (0, 0)) (pcN := 2338) jI_379_2336 rfl rfl rfl ?_
  refine jT_xiconst (k := 3) (pcN := 2339) jI_379_2338 rfl ?_
  refine jT_xiadd (x := 0) (y := 3) (z := 3) (pcN := 2340) jI_379_2339 rfl (by decide) rfl ?_
  refine jT_adv 1 (pcN := 2341) (LN := [(5, (0, 0)), (4, (4, 3)), (3, (4, 2)), (2, (4, 1)), (1, (4, 0)), (0, (6, 0))]) (stN := [(0, x3), (0, x2), (0, 1), (4, 0)]) (hsN := jpA_1923) (c1 := 0) (s1 := 0) (c2 := 1) (s2 := 6) (by exact rfl) ?_ (by omega) (by omega)
  refine jT_eq (LN := [(5, (0, 0)), (4, (4, 3)), (3, (4, 2)), (2, (4, 1)), (1, (4, 0)), (0, (6, 0))]) (stN := [(0, 0), (0, x2), (0, 1), (4, 0)]) (hsN := [jzA_265, jzA_266, jgh, jgh, jgh, jgh, jgh, jgh, jgh, jgh, jgh, jgh, jgh, jgh, jzA_322, (100, [], jS0), jgh, jgh, jgh, jgh, jgh, jgh, jgh, jgh, jgh, jgh, jgh, jgh, jgh, jgh, jgh, (117, [], [35, 36, 37, 38]), jgh, jgh, jgh, jgh, (7, [(4, 39), (4, (-1)), (4, (-1))], []), jgh, jgh, (114, [], [40]), jgh]) (rfl) (by simp only [List.cons.injEq, Prod.mk.injEq, and_true, true_and] <;> ((try unfold jw); (try unfold jwl); omega)) (rfl) ?_
  refine jT_xifT (pcN := 2348) jI_379_2341 rfl (by decide +kernel) rfl ?_
  refine jT_xiconst (k := 0) (pcN := 2349) jI_379_2348 rfl ?_
  refine jT_xaload_n (v := (4, 2)) (pcN := 2350) jI_379_2349 rfl rfl rfl ?_
  refine jT_fR [0, 2, 4, 5, 6, 7, 8, 9, 10, 11, 12, 13, 14, 30, 31, 32, 33, 34, 35, 36, 37, 38, 39, 40] 41 (y := 354) (pcN := 2353) (dC := 2) (bc1 := 1) (bc2 := 6) (c1 := 0) (c2 := 0) (as := [(4, 0), (0, 1), (0, x2), (0, 0), (4, 2)]) (asC := [(4, 0), (0, 1), (0, x2), (0, 0), (4, 1)]) (LN := [(5, (0, 0)), (4, (4, 3)), (3, (4, 2)), (2, (4, 1)), (1, (4, 0)), (0, (6, 0))]) (stN := []) (hsC := jpA_1846) (v := (0, 1)) (st2 := [(0, 1)]) (jA_354_975 (d := 0) (by omega)) (by rfl) (by rfl) (by decide +kernel) (by rfl) (by rfl) (by omega) (by omega) (by omega) (by omega) rfl ?_
  refine jT_xistore (v := (0, 1)) (LN := [(6, (0, 1)), (5, (0, 0)), (4, (4, 3)), (3, (4, 2)), (2, (4, 1)), (1, (4, 0)), (0, (6, 0))]) (pcN := 2355) jI_379_2353 rfl rfl rfl rfl ?_
  refine jT_xaload_n (v := (4, 1)) (pcN := 2356) jI_379_2355 rfl rfl rfl ?_
  refine jT_xaload_n (v := (6, 0)) (pcN := 2357) jI_379_2356 rfl rfl rfl ?_
  refine jT_xiload (v := (0, 0)) (pcN := 2359) jI_379_2357 rfl rfl rfl ?_
  refine jT_xiconst (k := 1) (pcN := 2360) jI_379_2359 rfl ?_
  refine jT_xiadd (x := 0) (y := 1) (z := 1) (pcN := 2361) jI_379_2360 rfl (by decide) rfl ?_
  refine jT_adv 1 (pcN := 2362) (LN := [(6, (0, 1)), (5, (0, 0)), (4, (4, 3)), (3, (4, 2)), (2, (4, 1)), (1, (4, 0)), (0, (6, 0))]) (stN := [(0, x1), (4, 1)]) (hsN := jpA_1923) (c1 := 0) (s1 := 0) (c2 := 0) (s2 := 0) (by exact rfl) ?_ (by omega) (by omega)
  refine jT_eq (LN := [(6, (0, 1)), (5, (0, 0)), (4, (4, 3)), (3, (4, 2)), (2, (4, 1)), (1, (4, 0)), (0, (6, 0))]) (stN := [(0, 1), (4, 1)]) (hsN := [jzA_265, jzA_266, jgh, jgh, jgh, jgh, jgh, jgh, jgh, jgh, jgh, jgh, jgh, jgh, jzA_322, (100, [], jS0), jgh, jgh, jgh, jgh, jgh, jgh, jgh, jgh, jgh, jgh, jgh, jgh, jgh, jgh, jgh, (117, [], [35, 36, 37, 38]), jgh, jgh, jgh, jgh, (7, [(4, 39), (4, (-1)), (4, (-1))], []), jgh, jgh, (114, [], [40]), jgh]) (rfl) (by simp only [List.cons.injEq, Prod.mk.injEq, and_true, true_and] <;> ((try unfold jw); (try unfold jwl); omega)) (rfl) ?_
  refine jT_xaload_n (v := (6, 0)) (pcN := 2363) jI_379_2362 rfl rfl rfl ?_
  refine jT_xiload (v := (0, 0)) (pcN := 2365) jI_379_2363 rfl rfl rfl ?_
  refine jT_xiconst (k := 2) (pcN := 2366) jI_379_2365 rfl ?_
  refine jT_xiadd (x := 0) (y := 2) (z := 2) (pcN := 2367) jI_379_2366 rfl (by decide) rfl ?_
  refine jT_adv 1 (pcN := 2368) (LN := [(6, (0, 1)), (5, (0, 0)), (4, (4, 3)), (3, (4, 2)), (2, (4, 1)), (1, (4, 0)), (0, (6, 0))]) (stN := [(0, x2), (0, 1), (4, 1)]) (hsN := jpA_1923) (c1 := 0) (s1 := 0) (c2 := 0) (s2 := 0) (by exact rfl) ?_ (by omega) (by omega)
  refine jT_xaload_n (v := (6, 0)) (pcN := 2369) jI_379_2368 rfl rfl rfl ?_
  refine jT_xiload (v := (0, 0)) (pcN := 2371) jI_379_2369 rfl rfl rfl ?_
  refine jT_xiconst (k := 3) (pcN := 2372) jI_379_2371 rfl ?_
  refine jT_xiadd (x := 0) (y := 3) (z := 3) (pcN := 2373) jI_379_2372 rfl (by decide) rfl ?_
  refine jT_adv 1 (pcN := 2374) (LN := [(6, (0, 1)), (5, (0, 0)), (4, (4, 3)), (3, (4, 2)), (2, (4, 1)), (1, (4, 0)), (0, (6, 0))]) (stN := [(0, x3), (0, x2), (0, 1), (4, 1)]) (hsN := jpA_1923) (c1 := 0) (s1 := 0) (c2 := 0) (s2 := 0) (by exact rfl) ?_ (by omega) (by omega)
  refine jT_eq (LN := [(6, (0, 1)), (5, (0, 0)), (4, (4, 3)), (3, (4, 2)), (2, (4, 1)), (1, (4, 0)), (0, (6, 0))]) (stN := [(0, 0), (0, x2), (0, 1), (4, 1)]) (hsN := [jzA_265, jzA_266, jgh, jgh, jgh, jgh, jgh, jgh, jgh, jgh, jgh, jgh, jgh, jgh, jzA_322, (100, [], jS0), jgh, jgh, jgh, jgh, jgh, jgh, jgh, jgh, jgh, jgh, jgh, jgh, jgh, jgh, jgh, (117, [], [35, 36, 37, 38]), jgh, jgh, jgh, jgh, (7, [(4, 39), (4, (-1)), (4, (-1))], []), jgh, jgh, (114, [], [40]), jgh]) (rfl) (by simp only [List.cons.injEq, Prod.mk.injEq, and_true, true_and] <;> ((try unfold jw); (try unfold jwl); omega)) (rfl) ?_
  refine jT_xifT (pcN := 2381) jI_379_2374 rfl (by decide +kernel) rfl ?_
  refine jT_xiconst (k := 0) (pcN := 2382) jI_379_2381 rfl ?_
  refine jT_fB [1, 15, 16, 17, 18, 19, 20, 21, 22, 23, 24, 25, 26, 27, 28, 29] 41 (y := 279) (pcN := 2385) (dC := 2) (bc1 := 0) (bc2 := 0) (c1 := 0) (c2 := 0) (as := [(4, 1), (0, 1), (0, x2), (0, 0)]) (asC := [(4, 0), (0, 1), (0, x2), (0, 0)]) (LN := [(6, (0, 1)), (5, (0, 0)), (4, (4, 3)), (3, (4, 2)), (2, (4, 1)), (1, (4, 0)), (0, (6, 0))]) (stN := []) (hsC := jpA_1519) (hsD := jpA_1820) (v := (0, 0)) (st2 := [(0, 0)]) (hs2 := jpA_1924) (jA_279_976 (d := 0) (by omega)) (by rfl) (by rfl) (by decide +kernel) (by rfl) (by rfl) (by omega) (by omega) (by omega) (by omega) rfl (by decide +kernel) ?_
  refine jT_xistore (v := (0, 0)) (LN := [(7, (0, 0)), (6, (0, 1)), (5, (0, 0)), (4, (4, 3)), (3, (4, 2)), (2, (4, 1)), (1, (4, 0)), (0, (6, 0))]) (pcN := 2387) jI_379_2385 rfl rfl rfl rfl ?_
  refine jT_xaload_n (v := (4, 1)) (pcN := 2388) jI_379_2387 rfl rfl rfl ?_
  refine jT_fR [1, 15, 16, 17, 18, 19, 20, 21, 22, 23, 24, 25, 26, 27, 28, 29] 41 (y := 186) (pcN := 2391) (dC := 0) (bc1 := 0) (bc2 := 0) (c1 := 0) (c2 := 0) (as := [(4, 1)]) (asC := [(4, 0)]) (LN := [(7, (0, 0)), (6, (0, 1)), (5, (0, 0)), (4, (4, 3)), (3, (4, 2)), (2, (4, 1)), (1, (4, 0)), (0, (6, 0))]) (stN := []) (hsC := jpA_20) (v := (0, 1)) (st2 := [(0, 1)]) (jA_186_8 (d := 0)) (by rfl) (by rfl) (by decide +kernel) (by rfl) (by rfl) (by omega) (by omega) (by omega) (by omega) rfl ?_
  refine jT_xiload (v := (0, 1)) (pcN := 2393) jI_379_2391 rfl rfl rfl ?_
  refine jT_xicT (pcN := 2398) jI_379_2393 rfl (by decide +kernel) rfl ?_
  refine jT_xiload (v := (0, 1)) (pcN := 2400) jI_379_2398 rfl rfl rfl ?_
  refine jT_xifT (pcN := 2415) jI_379_2400 rfl (by decide +kernel) rfl ?_
  refine jT_xgoto (pcN := 3740) jI_379_2415 rfl ?_
  refine jT_xiinc (x := 0) (z := 5) (LN := [(5, (0, 5)), (7, (0, 0)), (6, (0, 1)), (4, (4, 3)), (3, (4, 2)), (2, (4, 1)), (1, (4, 0)), (0, (6, 0))]) (pcN := 3743) jI_379_3740 rfl rfl (by decide) rfl rfl ?_
  refine jT_xgoto (pcN := 28) jI_379_3743 rfl ?_
  refine jT_xiload (v := (0, 5)) (pcN := 30) jI_379_28 rfl rfl rfl ?_
  refine jT_xaload_n (v := (6, 0)) (pcN := 31) jI_379_30 rfl rfl rfl ?_
  refine jT_adv 1 (pcN := 32) (LN := [(5, (0, 5)), (7, (0, 0)), (6, (0, 1)), (4, (4, 3)), (3, (4, 2)), (2, (4, 1)), (1, (4, 0)), (0, (6, 0))]) (stN := [(0, 5), (0, 5)]) (hsN := jpA_1924) (c1 := 0) (s1 := 0) (c2 := 0) (s2 := 0) (by exact rfl) ?_ (by omega) (by omega)
  refine jT_xiconst (k := 5) (pcN := 33) jI_379_32 rfl ?_
  refine jT_xisub (x := 5) (y := 5) (z := 0) (pcN := 34) jI_379_33 rfl (by decide) rfl ?_
  refine jT_xicT (pcN := 3746) jI_379_34 rfl (by decide +kernel) rfl ?_
  refine jT_xiconst (k := 1) (pcN := 3747) jI_379_3746 rfl ?_
  exact jT_ret rfl (by decide) (by show 41 ≤ 41; decide) (by omega) (by omega) ⟨rfl, rfl⟩
def jpA_3718 : List JC := [jzA_265, jzA_266, (101, [], [0]), jgh, (8, [(4, 30), (4, 31)], []), jgh, jgh, jgh, jgh, jgh, jgh, jgh, jgh, jgh, jzA_721, (100, [], jS0), jgh, jgh, jgh, jgh, (130, [], [37, 38, 39, 40, 41, 42]), (101, [], [0, 0, 0, 0, 0, 0]), jgh, jgh, jgh, jgh, jgh, jgh, jgh, jgh, jgh, jgh, jgh, (117, [], [43, 44, 45, 46]), jgh, jgh, jgh, (100, [], (jenc (jlg 0))), jgh, jgh, jgh, jgh, jgh, jgh, (7, [(4, 47), (4, (-1)), (4, (-1))], []), jgh, jgh, (114, [], [48]), (4, [(4, 49), (1, 1)], []), (101, [], [0, 0, 0, 0, 0, 0]), (101, [], [0, 0, 0, 0, 0, 0]), (101, [], [1, 0, 0, 0, 0, 0]), (101, [], [1, 0, 0, 0, 0, 0]), (100, [], (jenc 0)), (100, [], (jenc 1)), (100, [], (jenc (1 * (jlg 0)))), (101, [], [(-1), 0, 0, 0, 0, 0]), (100, [], (jenc 0)), (100, [], (jenc (-1))), (100, [], (jenc ((-1) * (jlg 0))))]
set_option maxRecDepth 100000 in
theorem jL_30_19 {d : Nat} {x0 x1 x2 x3 x4 : Int} (h_x0 : (-2147483648) ≤ x0 ∧ x0 ≤ 2147483647) (h_x1 : 1 ≤ x1 ∧ x1 ≤ 1) (h_x2 : 0 ≤ x2 ∧ x2 ≤ 0) (h_x3 : 0 ≤ x3 ∧ x3 ≤ 0) (h_x4 : (-2147483648) ≤ x4 ∧ x4 ≤ 2147483647) : jT [x0, x1, x2, x3, x4] (d + 9) 379 50 2322 [(5, (0, 0)), (4, (4, 3)), (3, (4, 2)), (2, (4, 1)), (1, (4, 0)), (0, (6, 0))] [] jpA_3706 10 360 (fun k v hsN => k = 0 ∧ v = (0, 1)) := by
  refine jT_xaload_n (v := (4, 0)) (pcN := 2323) jI_379_2322 rfl rfl rfl ?_
  refine jT_xaload_n (v := (6, 0)) (pcN := 2324) jI_379_2323 rfl rfl rfl ?_
  refine jT_xiload (v := (0, 0)) (pcN := 2326) jI_379_2324 rfl rfl rfl ?_
  refine jT_xiconst (k := 1) (pcN := 2327) jI_379_2326 rfl ?_
  refine jT_xiadd (x := 0) (y := 1) (z := 1) (pcN := 2328) jI_379_2327 rfl (by decide) rfl ?_
  refine jT_adv 1 (pcN := 2329) (LN := [(5, (0, 0)), (4, (4, 3)), (3, (4, 2)), (2, (4, 1)), (1, (4, 0)), (0, (6, 0))]) (stN := [(0, x1), (4, 0)]) (hsN := jpA_3706) (c1 := 0) (s1 := 0) (c2 := 10) (s2 := 360) (by exact rfl) ?_ (by omega) (by omega)
  refine jT_eq (LN := [(5, (0, 0)), (4, (4, 3)), (3, (4, 2)), (2, (4, 1)), (1, (4, 0)), (0, (6, 0))]) (stN := [(0, 1), (4, 0)]) (hsN := [jzA_265, jzA_266, (101, [], [0]), jgh, (8, [(4, 30), (4, 31)], []), jgh, jgh, jgh, jgh, jgh, jgh, jgh, jgh, jgh, jzA_721, (100, [], jS0), jgh, jgh, jgh, jgh, (130, [], [37, 38, 39, 40, 41, 42]), (101, [], [0, 0, 0, 0, 0, 0]), jgh, jgh, jgh, jgh, jgh, jgh, jgh, jgh, jgh, jgh, jgh, (117, [], [43, 44, 45, 46]), jgh, jgh, jgh, (100, [], (jenc (jlg 0))), jgh, jgh, jgh, jgh, jgh, jgh, (7, [(4, 47), (4, (-1)), (4, (-1))], []), jgh, jgh, (114, [], [48]), (4, [(4, 49), (1, 1)], []), (101, [], [0, 0, 0, 0, 0, 0])]) (rfl) (by simp only [List.cons.injEq, Prod.mk.injEq, and_true, true_and] <;> ((try unfold jw); (try unfold jwl); omega)) (rfl) ?_
  refine jT_xaload_n (v := (6, 0)) (pcN := 2330) jI_379_2329 rfl rfl rfl ?_
  refine jT_xiload (v := (0, 0)) (pcN := 2332) jI_379_2330 rfl rfl rfl ?_
  refine jT_xiconst (k := 2) (pcN := 2333) jI_379_2332 rfl ?_
  refine jT_xiadd (x := 0) (y := 2) (z := 2) (pcN := 2334) jI_379_2333 rfl (by decide) rfl ?_
  refine jT_adv 1 (pcN := 2335) (LN := [(5, (0, 0)), (4, (4, 3)), (3, (4, 2)), (2, (4, 1)), (1, (4, 0)), (0, (6, 0))]) (stN := [(0, x2), (0, 1), (4, 0)]) (hsN := jpA_3706) (c1 := 0) (s1 := 0) (c2 := 10) (s2 := 360) (by exact rfl) ?_ (by omega) (by omega)
  refine jT_eq (LN := [(5, (0, 0)), (4, (4, 3)), (3, (4, 2)), (2, (4, 1)), (1, (4, 0)), (0, (6, 0))]) (stN := [(0, 0), (0, 1), (4, 0)]) (hsN := [jzA_265, jzA_266, (101, [], [0]), jgh, (8, [(4, 30), (4, 31)], []), jgh, jgh, jgh, jgh, jgh, jgh, jgh, jgh, jgh, jzA_721, (100, [], jS0), jgh, jgh, jgh, jgh, (130, [], [37, 38, 39, 40, 41, 42]), (101, [], [0, 0, 0, 0, 0, 0]), jgh, jgh, jgh, jgh, jgh, jgh, jgh, jgh, jgh, jgh, jgh, (117, [], [43, 44, 45, 46]), jgh, jgh, jgh, (100, [], (jenc (jlg 0))), jgh, jgh, jgh, jgh, jgh, jgh, (7, [(4, 47), (4, (-1)), (4, (-1))], []), jgh, jgh, (114, [], [48]), (4, [(4, 49), (1, 1)], []), (101, [], [0, 0, 0, 0, 0, 0])]) (rfl) (by simp only [List.cons.injEq, Prod.mk.injEq, and_true, true_and] <;> ((try unfold jw); (try unfold jwl); omega)) (rfl) ?_
  refine jT_xaload_n (v := (6, 0)) (pcN := 2336) jI_379_2335 rfl rfl rfl ?_
  refine jT_xiload (v := (0, 0)) (pcN := 2338) jI_379_2336 rfl rfl rfl ?_
  refine jT_xiconst (k := 3) (pcN := 2339) jI_379_2338 rfl ?_
  refine jT_xiadd (x := 0) (y := 3) (z := 3) (pcN := 2340) jI_379_2339 rfl (by decide) rfl ?_
  refine jT_adv 1 (pcN := 2341) (LN := [(5, (0, 0)), (4, (4, 3)), (3, (4, 2)), (2, (4, 1)), (1, (4, 0)), (0, (6, 0))]) (stN := [(0, x3), (0, 0), (0, 1), (4, 0)]) (hsN := jpA_3706) (c1 := 0) (s1 := 0) (c2 := 10) (s2 := 360) (by exact rfl) ?_ (by omega) (by omega)
  refine jT_eq (LN := [(5, (0, 0)), (4, (4, 3)), (3, (4, 2)), (2, (4, 1)), (1, (4, 0)), (0, (6, 0))]) (stN := [(0, 0), (0, 0), (0, 1), (4, 0)]) (hsN := [jzA_265, jzA_266, (101, [], [0]), jgh, (8, [(4, 30), (4, 31)], []), jgh, jgh, jgh, jgh, jgh, jgh, jgh, jgh, jgh, jzA_721, (100, [], jS0), jgh, jgh, jgh, jgh, (130, [], [37, 38, 39, 40, 41, 42]), (101, [], [0, 0, 0, 0, 0, 0]), jgh, jgh, jgh, jgh, jgh, jgh, jgh, jgh, jgh, jgh, jgh, (117, [], [43, 44, 45, 46]), jgh, jgh, jgh, (100, [], (jenc (jlg 0))), jgh, jgh, jgh, jgh, jgh, jgh, (7, [(4, 47), (4, (-1)), (4, (-1))], []), jgh, jgh, (114, [], [48]), (4, [(4, 49), (1, 1)], []), (101, [], [0, 0, 0, 0, 0, 0])]) (rfl) (by simp only [List.cons.injEq, Prod.mk.injEq, and_true, true_and] <;> ((try unfold jw); (try unfold jwl); omega)) (rfl) ?_
  refine jT_xifT (pcN := 2348) jI_379_2341 rfl (by decide +kernel) rfl ?_
  refine jT_xiconst (k := 0) (pcN := 2349) jI_379_2348 rfl ?_
  refine jT_xaload_n (v := (4, 2)) (pcN := 2350) jI_379_2349 rfl rfl rfl ?_
  refine jT_fR [0, 2, 4, 5, 6, 7, 8, 9, 10, 11, 12, 13, 14, 30, 31, 32, 33, 34, 35, 36, 43, 44, 45, 46, 47, 48, 49] 50 (y := 354) (pcN := 2353) (dC := 5) (bc1 := 0) (bc2 := 0) (c1 := 10) (c2 := 360) (as := [(4, 0), (0, 1), (0, 0), (0, 0), (4, 2)]) (asC := [(4, 0), (0, 1), (0, 0), (0, 0), (4, 1)]) (LN := [(5, (0, 0)), (4, (4, 3)), (3, (4, 2)), (2, (4, 1)), (1, (4, 0)), (0, (6, 0))]) (stN := []) (hsC := jpA_3639) (v := (0, 0)) (st2 := [(0, 0)]) (jA_354_978 (d := 0)) (by rfl) (by rfl) (by decide +kernel) (by rfl) (by rfl) (by omega) (by omega) (by omega) (by omega) rfl ?_
  refine jT_xistore (v := (0, 0)) (LN := [(6, (0, 0)), (5, (0, 0)), (4, (4, 3)), (3, (4, 2)), (2, (4, 1)), (1, (4, 0)), (0, (6, 0))]) (pcN := 2355) jI_379_2353 rfl rfl rfl rfl ?_
  refine jT_xaload_n (v := (4, 1)) (pcN := 2356) jI_379_2355 rfl rfl rfl ?_
  refine jT_xaload_n (v := (6, 0)) (pcN := 2357) jI_379_2356 rfl rfl rfl ?_
  refine jT_xiload (v := (0, 0)) (pcN := 2359) jI_379_2357 rfl rfl rfl ?_
  refine jT_xiconst (k := 1) (pcN := 2360) jI_379_2359 rfl ?_
  refine jT_xiadd (x := 0) (y := 1) (z := 1) (pcN := 2361) jI_379_2360 rfl (by decide) rfl ?_
  refine jT_adv 1 (pcN := 2362) (LN := [(6, (0, 0)), (5, (0, 0)), (4, (4, 3)), (3, (4, 2)), (2, (4, 1)), (1, (4, 0)), (0, (6, 0))]) (stN := [(0, x1), (4, 1)]) (hsN := jpA_3706) (c1 := 0) (s1 := 0) (c2 := 10) (s2 := 360) (by exact rfl) ?_ (by omega) (by omega)
  refine jT_eq (LN := [(6, (0, 0)), (5, (0, 0)), (4, (4, 3)), (3, (4, 2)), (2, (4, 1)), (1, (4, 0)), (0, (6, 0))]) (stN := [(0, 1), (4, 1)]) (hsN := [jzA_265, jzA_266, (101, [], [0]), jgh, (8, [(4, 30), (4, 31)], []), jgh, jgh, jgh, jgh, jgh, jgh, jgh, jgh, jgh, jzA_721, (100, [], jS0), jgh, jgh, jgh, jgh, (130, [], [37, 38, 39, 40, 41, 42]), (101, [], [0, 0, 0, 0, 0, 0]), jgh, jgh, jgh, jgh, jgh, jgh, jgh, jgh, jgh, jgh, jgh, (117, [], [43, 44, 45, 46]), jgh, jgh, jgh, (100, [], (jenc (jlg 0))), jgh, jgh, jgh, jgh, jgh, jgh, (7, [(4, 47), (4, (-1)), (4, (-1))], []), jgh, jgh, (114, [], [48]), (4, [(4, 49), (1, 1)], []), (101, [], [0, 0, 0, 0, 0, 0])]) (rfl) (by simp only [List.cons.injEq, Prod.mk.injEq, and_true, true_and] <;> ((try unfold jw); (try unfold jwl); omega)) (rfl) ?_
  refine jT_xaload_n (v := (6, 0)) (pcN := 2363) jI_379_2362 rfl rfl rfl ?_
  refine jT_xiload (v := (0, 0)) (pcN := 2365) jI_379_2363 rfl rfl rfl ?_
  refine jT_xiconst (k := 2) (pcN := 2366) jI_379_2365 rfl ?_
  refine jT_xiadd (x := 0) (y := 2) (z := 2) (pcN := 2367) jI_379_2366 rfl (by decide) rfl ?_
  refine jT_adv 1 (pcN := 2368) (LN := [(6, (0, 0)), (5, (0, 0)), (4, (4, 3)), (3, (4, 2)), (2, (4, 1)), (1, (4, 0)), (0, (6, 0))]) (stN := [(0, x2), (0, 1), (4, 1)]) (hsN := jpA_3706) (c1 := 0) (s1 := 0) (c2 := 10) (s2 := 360) (by exact rfl) ?_ (by omega) (by omega)
  refine jT_eq (LN := [(6, (0, 0)), (5, (0, 0)), (4, (4, 3)), (3, (4, 2)), (2, (4, 1)), (1, (4, 0)), (0, (6, 0))]) (stN := [(0, 0), (0, 1), (4, 1)]) (hsN := [jzA_265, jzA_266, (101, [], [0]), jgh, (8, [(4, 30), (4, 31)], []), jgh, jgh, jgh, jgh, jgh, jgh, jgh, jgh, jgh, jzA_721, (100, [], jS0), jgh, jgh, jgh, jgh, (130, [], [37, 38, 39, 40, 41, 42]), (101, [], [0, 0, 0, 0, 0, 0]), jgh, jgh, jgh, jgh, jgh, jgh, jgh, jgh, jgh, jgh, jgh, (117, [], [43, 44, 45, 46]), jgh, jgh, jgh, (100, [], (jenc (jlg 0))), jgh, jgh, jgh, jgh, jgh, jgh, (7, [(4, 47), (4, (-1)), (4, (-1))], []), jgh, jgh, (114, [], [48]), (4, [(4, 49), (1, 1)], []), (101, [], [0, 0, 0, 0, 0, 0])]) (rfl) (by simp only [List.cons.injEq, Prod.mk.injEq, and_true, true_and] <;> ((try unfold jw); (try unfold jwl); omega)) (rfl) ?_
  refine jT_xaload_n (v := (6, 0)) (pcN := 2369) jI_379_2368 rfl rfl rfl ?_
  refine jT_xiload (v := (0, 0)) (pcN := 2371) jI_379_2369 rfl rfl rfl ?_
  refine jT_xiconst (k := 3) (pcN := 2372) jI_379_2371 rfl ?_
  refine jT_xiadd (x := 0) (y := 3) (z := 3) (pcN := 2373) jI_379_2372 rfl (by decide) rfl ?_
  refine jT_adv 1 (pcN := 2374) (LN := [(6, (0, 0)), (5, (0, 0)), (4, (4, 3)), (3, (4, 2)), (2, (4, 1)), (1, (4, 0)), (0, (6, 0))]) (stN := [(0, x3), (0, 0), (0, 1), (4, 1)]) (hsN := jpA_3706) (c1 := 0) (s1 := 0) (c2 := 10) (s2 := 360) (by exact rfl) ?_ (by omega) (by omega)
  refine jT_eq (LN := [(6, (0, 0)), (5, (0, 0)), (4, (4, 3)), (3, (4, 2)), (2, (4, 1)), (1, (4, 0)), (0, (6, 0))]) (stN := [(0, 0), (0, 0), (0, 1), (4, 1)]) (hsN := [jzA_265, jzA_266, (101, [], [0]), jgh, (8, [(4, 30), (4, 31)], []), jgh, jgh, jgh, jgh, jgh, jgh, jgh, jgh, jgh, jzA_721, (100, [], jS0), jgh, jgh, jgh, jgh, (130, [], [37, 38, 39, 40, 41, 42]), (101, [], [0, 0, 0, 0, 0, 0]), jgh, jgh, jgh, jgh, jgh, jgh, jgh, jgh, jgh, jgh, jgh, (117, [], [43, 44, 45, 46]), jgh, jgh, jgh, (100, [], (jenc (jlg 0))), jgh, jgh, jgh, jgh, jgh, jgh, (7, [(4, 47), (4, (-1)), (4, (-1))], []), jgh, jgh, (114, [], [48]), (4, [(4, 49), (1, 1)], []), (101, [], [0, 0, 0, 0, 0, 0])]) (rfl) (by simp only [List.cons.injEq, Prod.mk.injEq, and_true, true_and] <;> ((try unfold jw); (try unfold jwl); omega)) (rfl) ?_
  refine jT_xifT (pcN := 2381) jI_379_2374 rfl (by decide +kernel) rfl ?_
  refine jT_xiconst (k := 0) (pcN := 2382) jI_379_2381 rfl ?_
  refine jT_fA [1, 15, 16, 17, 18, 19, 20, 21, 22, 23, 24, 25, 26, 27, 28, 29, 37, 38, 39, 40, 41, 42] 50 (y := 279) (pcN := 2385) (dC := 8) (bc1 := 10) (bc2 := 360) (c1 := 0) (c2 := 0) (as := [(4, 1), (0, 1), (0, 0), (0, 0)]) (asC := [(4, 0), (0, 1), (0, 0), (0, 0)]) (LN := [(6, (0, 0)), (5, (0, 0)), (4, (4, 3)), (3, (4, 2)), (2, (4, 1)), (1, (4, 0)), (0, (6, 0))]) (stN := []) (hsC := jpA_1695) (ex := jpA_3654) (v := (0, 0)) (st2 := [(0, 0)]) (hs2 := jpA_3718) (jA_279_979 (d := 0)) (by rfl) (by rfl) (by decide +kernel) (by rfl) (by rfl) (by omega) (by omega) (by omega) (by omega) rfl (by decide +kernel) ?_
  refine jT_xistore (v := (0, 0)) (LN := [(7, (0, 0)), (6, (0, 0)), (5, (0, 0)), (4, (4, 3)), (3, (4, 2)), (2, (4, 1)), (1, (4, 0)), (0, (6, 0))]) (pcN := 2387) jI_379_2385 rfl rfl rfl rfl ?_
  refine jT_xaload_n (v := (4, 1)) (pcN := 2388) jI_379_2387 rfl rfl rfl ?_
  refine jT_fR [1, 15, 16, 17, 18, 19, 20, 21, 22, 23, 24, 25, 26, 27, 28, 29] 60 (y := 186) (pcN := 2391) (dC := 0) (bc1 := 0) (bc2 := 0) (c1 := 0) (c2 := 0) (as := [(4, 1)]) (asC := [(4, 0)]) (LN := [(7, (0, 0)), (6, (0, 0)), (5, (0, 0)), (4, (4, 3)), (3, (4, 2)), (2, (4, 1)), (1, (4, 0)), (0, (6, 0))]) (stN := []) (hsC := jpA_22) (v := (0, 0)) (st2 := [(0, 0)]) (jA_186_726 (d := 0)) (by rfl) (by rfl) (by decide +kernel) (by rfl) (by rfl) (by omega) (by omega) (by omega) (by omega) rfl ?_
  refine jT_xiload (v := (0, 0)) (pcN := 2393) jI_379_2391 rfl rfl rfl ?_
  refine jT_xicT (pcN := 2398) jI_379_2393 rfl (by decide +kernel) rfl ?_
  refine jT_xiload (v := (0, 0)) (pcN := 2400) jI_379_2398 rfl rfl rfl ?_
  refine jT_xifF (t := 2415) (pcN := 2403) jI_379_2400 rfl (by decide +kernel) rfl rfl ?_
  refine jT_xaload_n (v := (4, 2)) (pcN := 2404) jI_379_2403 rfl rfl rfl ?_
  refine jT_xiconst (k := 0) (pcN := 2405) jI_379_2404 rfl ?_
  refine jT_lald (x := 0) (a := 2) (j := 0) (fs := []) (X := [0]) jI_379_2405 rfl rfl rfl rfl ?_
  refine jT_eq (LN := [(7, (0, 0)), (6, (0, 0)), (5, (0, 0)), (4, (4, 3)), (3, (4, 2)), (2, (4, 1)), (1, (4, 0)), (0, (6, 0))]) (stN := [(1, 0)]) (hsN := jpA_3718) rfl rfl rfl ?_
  refine jT_xiload (v := (0, 0)) (pcN := 2408) jI_379_2406 rfl rfl rfl ?_
  refine jT_xi2l (x := 0) (z := 0) (pcN := 2409) jI_379_2408 rfl (by decide +kernel) rfl ?_
  refine jT_lcmp (a := 0) (b := 0) (z := 0) (by rfl) (by rfl) (by decide +kernel) (by decide +kernel) (by decide) ?_
  refine jT_xifT (pcN := 2415) jI_379_2410 rfl (by decide +kernel) rfl ?_
  refine jT_xgoto (pcN := 3740) jI_379_2415 rfl ?_
  refine jT_xiinc (x := 0) (z := 5) (LN := [(5, (0, 5)), (7, (0, 0)), (6, (0, 0)), (4, (4, 3)), (3, (4, 2)), (2, (4, 1)), (1, (4, 0)), (0, (6, 0))]) (pcN := 3743) jI_379_3740 rfl rfl (by decide) rfl rfl ?_
  refine jT_xgoto (pcN := 28) jI_379_3743 rfl ?_
  refine jT_xiload (v := (0, 5)) (pcN := 30) jI_379_28 rfl rfl rfl ?_
  refine jT_xaload_n (v := (6, 0)) (pcN := 31) jI_379_30 rfl rfl rfl ?_
  refine jT_adv 1 (pcN := 32) (LN := [(5, (0, 5)), (7, (0, 0)), (6, (0, 0)), (4, (4, 3)), (3, (4, 2)), (2, (4, 1)), (1, (4, 0)), (0, (6, 0))]) (stN := [(0, 5), (0, 5)]) (hsN := jpA_3718) (c1 := 0) (s1 := 0) (c2 := 0) (s2 := 0) (by exact rfl) ?_ (by omega) (by omega)
  refine jT_xiconst (k := 5) (pcN := 33) jI_379_32 rfl ?_
  refine jT_xisub (x := 5) (y := 5) (z := 0) (pcN := 34) jI_379_33 rfl (by decide) rfl ?_
  refine jT_xicT (pcN := 3746) jI_379_34 rfl (by decide +kernel) rfl ?_
  refine jT_xiconst (k := 1) (pcN := 3747) jI_379_3746 rfl ?_
  exact jT_ret rfl (by decide) (by show 50 ≤ 60; decide) (by omega) (by omega) ⟨rfl, rfl⟩
set_option maxRecDepth 100000 in
theorem jL_30_20 {d : Nat} {x0 x1 x2 x3 x4 : Int} (h_x0 : (-2147483648) ≤ x0 ∧ x0 ≤ 2147483647) (h_x1 : 1 ≤ x1 ∧ x1 ≤ 1) (h_x2 : 1 ≤ x2 ∧ x2 ≤ 2147483647) (h_x3 : 0 ≤ x3 ∧ x3 ≤ 0) (h_x4 : (-2147483648) ≤ x4 ∧ x4 ≤ 2147483647) : jT [x0, x1, x2, x3, x4] (d + 3) 379 41 2322 [(5, (0, 0)), (4, (4, 3)), (3, (4, 2)), (2, (4, 1)), (1, (4, 0)), (0, (6, 0))] [] jpA_1923 1 6 (fun k v hsN => k = 0 ∧ v = (0, 1)) := by
  refine jT_xaload_n (v := (4, 0)) (pcN := 2323) jI_379_2322 rfl rfl rfl ?_
  refine jT_xaload_n (v := (6, 0)) (pcN := 2324) jI_379_2323 rfl rfl rfl ?_
  refine jT_xiload (v := (0, 0)) (pcN := 2326) jI_379_2324 rfl rfl rfl ?_
  refine jT_xiconst (k := 1) (pcN := 2327) jI_379_2326 rfl ?_
  refine jT_xiadd (x := 0) (y := 1) (z := 1) (pcN := 2328) jI_379_2327 rfl (by decide) rfl ?_
  refine jT_adv 1 (pcN := 2329) (LN := [(5, (0, 0)), (4, (4, 3)), (3, (4, 2)), (2, (4, 1)), (1, (4, 0)), (0, (6, 0))]) (stN := [(0, x1), (4, 0)]) (hsN := jpA_1923) (c1 := 0) (s1 := 0) (c2 := 1) (s2 := 6) (by exact rfl) ?_ (by omega) (by omega)
  refine jT_eq (LN := [(5, (0, 0)), (4, (4, 3)), (3, (4, 2)), (2, (4, 1)), (1, (4, 0)), (0, (6, 0))]) (stN := [(0, 1), (4, 0)]) (hsN := [jzA_265, jzA_266, jgh, jgh, jgh, jgh, jgh, jgh, jgh, jgh, jgh, jgh, jgh, jgh, jzA_322, (100, [], jS0), jgh, jgh, jgh, jgh, jgh, jgh, jgh, jgh, jgh, jgh, jgh, jgh, jgh, jgh, jgh, (117, [], [35, 36, 37, 38]), jgh, jgh, jgh, jgh, (7, [(4, 39), (4, (-1)), (4, (-1))], []), jgh, jgh, (114, [], [40]), jgh]) (rfl) (by simp only [List.cons.injEq, Prod.mk.injEq, and_true, true_and] <;> ((try unfold jw); (try unfold jwl); omega)) (rfl) ?_
  refine jT_xaload_n (v := (6, 0)) (pcN := 2330) jI_379_2329 rfl rfl rfl ?_
  refine jT_xiload (v := (0, 0)) (pcN := 2332) jI_379_2330 rfl rfl rfl ?_
  refine jT_xiconst (k := 2) (pcN := 2333) jI_379_2332 rfl ?_
  refine jT_xiadd (x := 0) (y := 2) (z := 2) (pcN := 2334) jI_379_2333 rfl (by decide) rfl ?_
  refine jT_adv 1 (pcN := 2335) (LN := [(5, (0, 0)), (4, (4, 3)), (3, (4, 2)), (2, (4, 1)), (1, (4, 0)), (0, (6, 0))]) (stN := [(0, x2), (0, 1), (4, 0)]) (hsN := jpA_1923) (c1 := 0) (s1 := 0) (c2 := 1) (s2 := 6) (by exact rfl) ?_ (by omega) (by omega)
  refine jT_xaload_n (v := (6, 0)) (pcN := 2336) jI_379_2335 rfl rfl rfl ?_
  refine jT_xiload (v := (0, 0)) (pcN := 2338) jI_379_2336 rfl rfl rfl ?_
  refine jT_xiconst (k := 3) (pcN := 2339) jI_379_2338 rfl ?_
  refine jT_xiadd (x := 0) (y := 3) (z := 3) (pcN := 2340) jI_379_2339 rfl (by decide) rfl ?_
  refine jT_adv 1 (pcN := 2341) (LN := [(5, (0, 0)), (4, (4, 3)), (3, (4, 2)), (2, (4, 1)), (1, (4, 0)), (0, (6, 0))]) (stN := [(0, x3), (0, x2), (0, 1), (4, 0)]) (hsN := jpA_1923) (c1 := 0) (s1 := 0) (c2 := 1) (s2 := 6) (by exact rfl) ?_ (by omega) (by omega)
  refine jT_eq (LN := [(5, (0, 0)), (4, (4, 3)), (3, (4, 2)), (2, (4, 1)), (1, (4, 0)), (0, (6, 0))]) (stN := [(0, 0), (0, x2), (0, 1), (4, 0)]) (hsN := [jzA_265, jzA_266, jgh, jgh, jgh, jgh, jgh, jgh, jgh, jgh, jgh, jgh, jgh, jgh, jzA_322, (100, [], jS0), jgh, jgh, jgh, jgh, jgh, jgh, jgh, jgh, jgh, jgh, jgh, jgh, jgh, jgh, jgh, (117, [], [35, 36, 37, 38]), jgh, jgh, jgh, jgh, (7, [(4, 39), (4, (-1)), (4, (-1))], []), jgh, jgh, (114, [], [40]), jgh]) (rfl) (by simp only [List.cons.injEq, Prod.mk.injEq, and_true, true_and] <;> ((try unfold jw); (try unfold jwl); omega)) (rfl) ?_
  refine jT_xifT (pcN := 2348) jI_379_2341 rfl (by decide +kernel) rfl ?_
  refine jT_xiconst (k := 0) (pcN := 2349) jI_379_2348 rfl ?_
  refine jT_xaload_n (v := (4, 2)) (pcN := 2350) jI_379_2349 rfl rfl rfl ?_
  refine jT_fR [0, 2, 4, 5, 6, 7, 8, 9, 10, 11, 12, 13, 14, 30, 31, 32, 33, 34, 35, 36, 37, 38, 39, 40] 41 (y := 354) (pcN := 2353) (dC := 2) (bc1 := 1) (bc2 := 6) (c1 := 0) (c2 := 0) (as := [(4, 0), (0, 1), (0, x2), (0, 0), (4, 2)]) (asC := [(4, 0), (0, 1), (0, x2), (0, 0), (4, 1)]) (LN := [(5, (0, 0)), (4, (4, 3)), (3, (4, 2)), (2, (4, 1)), (1, (4, 0)), (0, (6, 0))]) (stN := []) (hsC := jpA_1846) (v := (0, 1)) (st2 := [(0, 1)]) (jA_354_981 (d := 0) (by omega)) (by rfl) (by rfl) (by decide +kernel) (by rfl) (by rfl) (by omega) (by omega) (by omega) (by omega) rfl ?_
  refine jT_xistore (v := (0, 1)) (LN := [(6, (0, 1)), (5, (0, 0)), (4, (4, 3)), (3, (4, 2)), (2, (4, 1)), (1, (4, 0)), (0, (6, 0))]) (pcN := 2355) jI_379_2353 rfl rfl rfl rfl ?_
  refine jT_xaload_n (v := (4, 1)) (pcN := 2356) jI_379_2355 rfl rfl rfl ?_
  refine jT_xaload_n (v := (6, 0)) (pcN := 2357) jI_379_2356 rfl rfl rfl ?_
  refine jT_xiload (v := (0, 0)) (pcN := 2359) jI_379_2357 rfl rfl rfl ?_
  refine jT_xiconst (k := 1) (pcN := 2360) jI_379_2359 rfl ?_
  refine jT_xiadd (x := 0) (y := 1) (z := 1) (pcN := 2361) jI_379_2360 rfl (by decide) rfl ?_
  refine jT_adv 1 (pcN := 2362) (LN := [(6, (0, 1)), (5, (0, 0)), (4, (4, 3)), (3, (4, 2)), (2, (4, 1)), (1, (4, 0)), (0, (6, 0))]) (stN := [(0, x1), (4, 1)]) (hsN := jpA_1923) (c1 := 0) (s1 := 0) (c2 := 0) (s2 := 0) (by exact rfl) ?_ (by omega) (by omega)
  refine jT_eq (LN := [(6, (0, 1)), (5, (0, 0)), (4, (4, 3)), (3, (4, 2)), (2, (4, 1)), (1, (4, 0)), (0, (6, 0))]) (stN := [(0, 1), (4, 1)]) (hsN := [jzA_265, jzA_266, jgh, jgh, jgh, jgh, jgh, jgh, jgh, jgh, jgh, jgh, jgh, jgh, jzA_322, (100, [], jS0), jgh, jgh, jgh, jgh, jgh, jgh, jgh, jgh, jgh, jgh, jgh, jgh, jgh, jgh, jgh, (117, [], [35, 36, 37, 38]), jgh, jgh, jgh, jgh, (7, [(4, 39), (4, (-1)), (4, (-1))], []), jgh, jgh, (114, [], [40]), jgh]) (rfl) (by simp only [List.cons.injEq, Prod.mk.injEq, and_true, true_and] <;> ((try unfold jw); (try unfold jwl); omega)) (rfl) ?_
  refine jT_xaload_n (v := (6, 0)) (pcN := 2363) jI_379_2362 rfl rfl rfl ?_
  refine jT_xiload (v := (0, 0)) (pcN := 2365) jI_379_2363 rfl rfl rfl ?_
  refine jT_xiconst (k := 2) (pcN := 2366) jI_379_2365 rfl ?_
  refine jT_xiadd (x := 0) (y := 2) (z := 2) (pcN := 2367) jI_379_2366 rfl (by decide) rfl ?_
  refine jT_adv 1 (pcN := 2368) (LN := [(6, (0, 1)), (5, (0, 0)), (4, (4, 3)), (3, (4, 2)), (2, (4, 1)), (1, (4, 0)), (0, (6, 0))]) (stN := [(0, x2), (0, 1), (4, 1)]) (hsN := jpA_1923) (c1 := 0) (s1 := 0) (c2 := 0) (s2 := 0) (by exact rfl) ?_ (by omega) (by omega)
  refine jT_xaload_n (v := (6, 0)) (pcN := 2369) jI_379_2368 rfl rfl rfl ?_
  refine jT_xiload (v := (0, 0)) (pcN := 2371) jI_379_2369 rfl rfl rfl ?_
  refine jT_xiconst (k := 3) (pcN := 2372) jI_379_2371 rfl ?_
  refine jT_xiadd (x := 0) (y := 3) (z := 3) (pcN := 2373) jI_379_2372 rfl (by decide) rfl ?_
  refine jT_adv 1 (pcN := 2374) (LN := [(6, (0, 1)), (5, (0, 0)), (4, (4, 3)), (3, (4, 2)), (2, (4, 1)), (1, (4, 0)), (0, (6, 0))]) (stN := [(0, x3), (0, x2), (0, 1), (4, 1)]) (hsN := jpA_1923) (c1 := 0) (s1 := 0) (c2 := 0) (s2 := 0) (by exact rfl) ?_ (by omega) (by omega)
  refine jT_eq (LN := [(6, (0, 1)), (5, (0, 0)), (4, (4, 3)), (3, (4, 2)), (2, (4, 1)), (1, (4, 0)), (0, (6, 0))]) (stN := [(0, 0), (0, x2), (0, 1), (4, 1)]) (hsN := [jzA_265, jzA_266, jgh, jgh, jgh, jgh, jgh, jgh, jgh, jgh, jgh, jgh, jgh, jgh, jzA_322, (100, [], jS0), jgh, jgh, jgh, jgh, jgh, jgh, jgh, jgh, jgh, jgh, jgh, jgh, jgh, jgh, jgh, (117, [], [35, 36, 37, 38]), jgh, jgh, jgh, jgh, (7, [(4, 39), (4, (-1)), (4, (-1))], []), jgh, jgh, (114, [], [40]), jgh]) (rfl) (by simp only [List.cons.injEq, Prod.mk.injEq, and_true, true_and] <;> ((try unfold jw); (try unfold jwl); omega)) (rfl) ?_
  refine jT_xifT (pcN := 2381) jI_379_2374 rfl (by decide +kernel) rfl ?_
  refine jT_xiconst (k := 0) (pcN := 2382) jI_379_2381 rfl ?_
  refine jT_fB [1, 15, 16, 17, 18, 19, 20, 21, 22, 23, 24, 25, 26, 27, 28, 29] 41 (y := 279) (pcN := 2385) (dC := 2) (bc1 := 0) (bc2 := 0) (c1 := 0) (c2 := 0) (as := [(4, 1), (0, 1), (0, x2), (0, 0)]) (asC := [(4, 0), (0, 1), (0, x2), (0, 0)]) (LN := [(6, (0, 1)), (5, (0, 0)), (4, (4, 3)), (3, (4, 2)), (2, (4, 1)), (1, (4, 0)), (0, (6, 0))]) (stN := []) (hsC := jpA_1519) (hsD := jpA_1820) (v := (0, 0)) (st2 := [(0, 0)]) (hs2 := jpA_1924) (jA_279_982 (d := 0) (by omega)) (by rfl) (by rfl) (by decide +kernel) (by rfl) (by rfl) (by omega) (by omega) (by omega) (by omega) rfl (by decide +kernel) ?_
  refine jT_xistore (v := (0, 0)) (LN := [(7, (0, 0)), (6, (0, 1)), (5, (0, 0)), (4, (4, 3)), (3, (4, 2)), (2, (4, 1)), (1, (4, 0)), (0, (6, 0))]) (pcN := 2387) jI_379_2385 rfl rfl rfl rfl ?_
  refine jT_xaload_n (v := (4, 1)) (pcN := 2388) jI_379_2387 rfl rfl rfl ?_
  refine jT_fR [1, 15, 16, 17, 18, 19, 20, 21, 22, 23, 24, 25, 26, 27, 28, 29] 41 (y := 186) (pcN := 2391) (dC := 0) (bc1 := 0) (bc2 := 0) (c1 := 0) (c2 := 0) (as := [(4, 1)]) (asC := [(4, 0)]) (LN := [(7, (0, 0)), (6, (0, 1)), (5, (0, 0)), (4, (4, 3)), (3, (4, 2)), (2, (4, 1)), (1, (4, 0)), (0, (6, 0))]) (stN := []) (hsC := jpA_20) (v := (0, 1)) (st2 := [(0, 1)]) (jA_186_8 (d := 0)) (by rfl) (by rfl) (by decide +kernel) (by rfl) (by rfl) (by omega) (by omega) (by omega) (by omega) rfl ?_
  refine jT_xiload (v := (0, 1)) (pcN := 2393) jI_379_2391 rfl rfl rfl ?_
  refine jT_xicT (pcN := 2398) jI_379_2393 rfl (by decide +kernel) rfl ?_
  refine jT_xiload (v := (0, 1)) (pcN := 2400) jI_379_2398 rfl rfl rfl ?_
  refine jT_xifT (pcN := 2415) jI_379_2400 rfl (by decide +kernel) rfl ?_
  refine jT_xgoto (pcN := 3740) jI_379_2415 rfl ?_
  refine jT_xiinc (x := 0) (z := 5) (LN := [(5, (0, 5)), (7, (0, 0)), (6, (0, 1)), (4, (4, 3)), (3, (4, 2)), (2, (4, 1)), (1, (4, 0)), (0, (6, 0))]) (pcN := 3743) jI_379_3740 rfl rfl (by decide) rfl rfl ?_
  refine jT_xgoto (pcN := 28) jI_379_3743 rfl ?_
  refine jT_xiload (v := (0, 5)) (pcN := 30) jI_379_28 rfl rfl rfl ?_
  refine jT_xaload_n (v := (6, 0)) (pcN := 31) jI_379_30 rfl rfl rfl ?_
  refine jT_adv 1 (pcN := 32) (LN := [(5, (0, 5)), (7, (0, 0)), (6, (0, 1)), (4, (4, 3)), (3, (4, 2)), (2, (4, 1)), (1, (4, 0)), (0, (6, 0))]) (stN := [(0, 5), (0, 5)]) (hsN := jpA_1924) (c1 := 0) (s1 := 0) (c2 := 0) (s2 := 0) (by exact rfl) ?_ (by omega) (by omega)
  refine jT_xiconst (k := 5) (pcN := 33) jI_379_32 rfl ?_
  refine jT_xisub (x := 5) (y := 5) (z := 0) (pcN := 34) jI_379_33 rfl (by decide) rfl ?_
  refine jT_xicT (pcN := 3746) jI_379_34 rfl (by decide +kernel) rfl ?_
  refine jT_xiconst (k := 1) (pcN := 3747) jI_379_3746 rfl ?_
  exact jT_ret rfl (by decide) (by show 41 ≤ 41; decide) (by omega) (by omega) ⟨rfl, rfl⟩
set_option maxRecDepth 100000 in
theorem jL_30_21 {d : Nat} {x0 x1 x2 x3 x4 : Int} (h_x0 : (-2147483648) ≤ x0 ∧ x0 ≤ 2147483647) (h_x1 : 2 ≤ x1 ∧ x1 ≤ 2) (h_x2 : (-2147483648) ≤ x2 ∧ x2 ≤ (-1)) (h_x3 : 0 ≤ x3 ∧ x3 ≤ 0) (h_x4 : (-2147483648) ≤ x4 ∧ x4 ≤ 2147483647) : jT [x0, x1, x2, x3, x4] (d + 3) 379 41 2322 [(5, (0, 0)), (4, (4, 3)), (3, (4, 2)), (2, (4, 1)), (1, (4, 0)), (0, (6, 0))] [] jpA_1928 1 6 (fun k v hsN => k = 0 ∧ v = (0, 1)) := by
  refine jT_xaload_n (v := (4, 0)) (pcN := 2323) jI_379_2322 rfl rfl rfl ?_
  refine jT_xaload_n (v := (6, 0)) (pcN := 2324) jI_379_2323 rfl rfl rfl ?_
  refine jT_xiload (v := (0, 0)) (pcN := 2326) jI_379_2324 rfl rfl rfl ?_
  refine jT_xiconst (k := 1) (pcN := 2327) jI_379_2326 rfl ?_
  refine jT_xiadd (x := 0) (y := 1) (z := 1) (pcN := 2328) jI_379_2327 rfl (by decide) rfl ?_
  refine jT_adv 1 (pcN := 2329) (LN := [(5, (0, 0)), (4, (4, 3)), (3, (4, 2)), (2, (4, 1)), (1, (4, 0)), (0, (6, 0))]) (stN := [(0, x1), (4, 0)]) (hsN := jpA_1928) (c1 := 0) (s1 := 0) (c2 := 1) (s2 := 6) (by exact rfl) ?_ (by omega) (by omega)
  refine jT_eq (LN := [(5, (0, 0)), (4, (4, 3)), (3, (4, 2)), (2, (4, 1)), (1, (4, 0)), (0, (6, 0))]) (stN := [(0, 2), (4, 0)]) (hsN := [jzA_265, jzA_266, jgh, jgh, jgh, jgh, jgh, jgh, jgh, jgh, jgh, jgh, jgh, jgh, jzA_322, (100, [], jS0), jgh, jgh, jgh, jgh, jgh, jgh, jgh, jgh, jgh, jgh, jgh, jgh, jgh, jgh, jgh, (117, [], [35, 36, 37, 38]), jgh, jgh, jgh, jgh, jgh, (7, [(4, 39), (4, (-1)), (4, (-1))], []), jgh, (114, [], [40]), jgh]) (rfl) (by simp only [List.cons.injEq, Prod.mk.injEq, and_true, true_and] <;> ((try unfold jw); (try unfold jwl); omega)) (rfl) ?_
  refine jT_xaload_n (v := (6, 0)) (pcN := 2330) jI_379_2329 rfl rfl rfl ?_
  refine jT_xiload (v := (0, 0)) (pcN := 2332) jI_379_2330 rfl rfl rfl ?_
  refine jT_xiconst (k := 2) (pcN := 2333) jI_379_2332 rfl ?_
  refine jT_xiadd (x := 0) (y := 2) (z := 2) (pcN := 2334) jI_379_2333 rfl (by decide) rfl ?_
  refine jT_adv 1 (pcN := 2335) (LN := [(5, (0, 0)), (4, (4, 3)), (3, (4, 2)), (2, (4, 1)), (1, (4, 0)), (0, (6, 0))]) (stN := [(0, x2), (0, 2), (4, 0)]) (hsN := jpA_1928) (c1 := 0) (s1 := 0) (c2 := 1) (s2 := 6) (by exact rfl) ?_ (by omega) (by omega)
  refine jT_xaload_n (v := (6, 0)) (pcN := 2336) jI_379_2335 rfl rfl rfl ?_
  refine jT_xiload (v := (0, 0)) (pcN := 2338) jI_379_2336 rfl rfl rfl ?_
  refine jT_xiconst (k := 3) (pcN := 2339) jI_379_2338 rfl ?_
  refine jT_xiadd (x := 0) (y := 3) (z := 3) (pcN := 2340) jI_379_2339 rfl (by decide) rfl ?_
  refine jT_adv 1 (pcN := 2341) (LN := [(5, (0, 0)), (4, (4, 3)), (3, (4, 2)), (2, (4, 1)), (1, (4, 0)), (0, (6, 0))]) (stN := [(0, x3), (0, x2), (0, 2), (4, 0)]) (hsN := jpA_1928) (c1 := 0) (s1 := 0) (c2 := 1) (s2 := 6) (by exact rfl) ?_ (by omega) (by omega)
  refine jT_eq (LN := [(5, (0, 0)), (4, (4, 3)), (3, (4, 2)), (2, (4, 1)), (1, (4, 0)), (0, (6, 0))]) (stN := [(0, 0), (0, x2), (0, 2), (4, 0)]) (hsN := [jzA_265, jzA_266, jgh, jgh, jgh, jgh, jgh, jgh, jgh, jgh, jgh, jgh, jgh, jgh, jzA_322, (100, [], jS0), jgh, jgh, jgh, jgh, jgh, jgh, jgh, jgh, jgh, jgh, jgh, jgh, jgh, jgh, jgh, (117, [], [35, 36, 37, 38]), jgh, jgh, jgh, jgh, jgh, (7, [(4, 39), (4, (-1)), (4, (-1))], []), jgh, (114, [], [40]), jgh]) (rfl) (by simp only [List.cons.injEq, Prod.mk.injEq, and_true, true_and] <;> ((try unfold jw); (try unfold jwl); omega)) (rfl) ?_
  refine jT_xifT (pcN := 2348) jI_379_2341 rfl (by decide +kernel) rfl ?_
  refine jT_xiconst (k := 0) (pcN := 2349) jI_379_2348 rfl ?_
  refine jT_xaload_n (v := (4, 2)) (pcN := 2350) jI_379_2349 rfl rfl rfl ?_
  refine jT_fR [0, 2, 4, 5, 6, 7, 8, 9, 10, 11, 12, 13, 14, 30, 31, 32, 33, 34, 35, 36, 37, 38, 39, 40] 41 (y := 354) (pcN := 2353) (dC := 2) (bc1 := 1) (bc2 := 6) (c1 := 0) (c2 := 0) (as := [(4, 0), (0, 2), (0, x2), (0, 0), (4, 2)]) (asC := [(4, 0), (0, 2), (0, x2), (0, 0), (4, 1)]) (LN := [(5, (0, 0)), (4, (4, 3)), (3, (4, 2)), (2, (4, 1)), (1, (4, 0)), (0, (6, 0))]) (stN := []) (hsC := jpA_1859) (v := (0, 1)) (st2 := [(0, 1)]) (jA_354_984 (d := 0) (by omega)) (by rfl) (by rfl) (by decide +kernel) (by rfl) (by rfl) (by omega) (by omega) (by omega) (by omega) rfl ?_
  refine jT_xistore (v := (0, 1)) (LN := [(6, (0, 1)), (5, (0, 0)), (4, (4, 3)), (3, (4, 2)), (2, (4, 1)), (1, (4, 0)), (0, (6, 0))]) (pcN := 2355) jI_379_2353 rfl rfl rfl rfl ?_
  refine jT_xaload_n (v := (4, 1)) (pcN := 2356) jI_379_2355 rfl rfl rfl ?_
  refine jT_xaload_n (v := (6, 0)) (pcN := 2357) jI_379_2356 rfl rfl rfl ?_
  refine jT_xiload (v := (0, 0)) (pcN := 2359) jI_379_2357 rfl rfl rfl ?_
  refine jT_xiconst (k := 1) (pcN := 2360) jI_379_2359 rfl ?_
  refine jT_xiadd (x := 0) (y := 1) (z := 1) (pcN := 2361) jI_379_2360 rfl (by decide) rfl ?_
  refine jT_adv 1 (pcN := 2362) (LN := [(6, (0, 1)), (5, (0, 0)), (4, (4, 3)), (3, (4, 2)), (2, (4, 1)), (1, (4, 0)), (0, (6, 0))]) (stN := [(0, x1), (4, 1)]) (hsN := jpA_1928) (c1 := 0) (s1 := 0) (c2 := 0) (s2 := 0) (by exact rfl) ?_ (by omega) (by omega)
  refine jT_eq (LN := [(6, (0, 1)), (5, (0, 0)), (4, (4, 3)), (3, (4, 2)), (2, (4, 1)), (1, (4, 0)), (0, (6, 0))]) (stN := [(0, 2), (4, 1)]) (hsN := [jzA_265, jzA_266, jgh, jgh, jgh, jgh, jgh, jgh, jgh, jgh, jgh, jgh, jgh, jgh, jzA_322, (100, [], jS0), jgh, jgh, jgh, jgh, jgh, jgh, jgh, jgh, jgh, jgh, jgh, jgh, jgh, jgh, jgh, (117, [], [35, 36, 37, 38]), jgh, jgh, jgh, jgh, jgh, (7, [(4, 39), (4, (-1)), (4, (-1))], []), jgh, (114, [], [40]), jgh]) (rfl) (by simp only [List.cons.injEq, Prod.mk.injEq, and_true, true_and] <;> ((try unfold jw); (try unfold jwl); omega)) (rfl) ?_
  refine jT_xaload_n (v := (6, 0)) (pcN := 2363) jI_379_2362 rfl rfl rfl ?_
  refine jT_xiload (v := (0, 0)) (pcN := 2365) jI_379_2363 rfl rfl rfl ?_
  refine jT_xiconst (k := 2) (pcN := 2366) jI_379_2365 rfl ?_
  refine jT_xiadd (x := 0) (y := 2) (z := 2) (pcN := 2367) jI_379_2366 rfl (by decide) rfl ?_
  refine jT_adv 1 (pcN := 2368) (LN := [(6, (0, 1)), (5, (0, 0)), (4, (4, 3)), (3, (4, 2)), (2, (4, 1)), (1, (4, 0)), (0, (6, 0))]) (stN := [(0, x2), (0, 2), (4, 1)]) (hsN := jpA_1928) (c1 := 0) (s1 := 0) (c2 := 0) (s2 := 0) (by exact rfl) ?_ (by omega) (by omega)
  refine jT_xaload_n (v := (6, 0)) (pcN := 2369) jI_379_2368 rfl rfl rfl ?_
  refine jT_xiload (v := (0, 0)) (pcN := 2371) jI_379_2369 rfl rfl rfl ?_
  refine jT_xiconst (k := 3) (pcN := 2372) jI_379_2371 rfl ?_
  refine jT_xiadd (x := 0) (y := 3) (z := 3) (pcN := 2373) jI_379_2372 rfl (by decide) rfl ?_
  refine jT_adv 1 (pcN := 2374) (LN := [(6, (0, 1)), (5, (0, 0)), (4, (4, 3)), (3, (4, 2)), (2, (4, 1)), (1, (4, 0)), (0, (6, 0))]) (stN := [(0, x3), (0, x2), (0, 2), (4, 1)]) (hsN := jpA_1928) (c1 := 0) (s1 := 0) (c2 := 0) (s2 := 0) (by exact rfl) ?_ (by omega) (by omega)
  refine jT_eq (LN := [(6, (0, 1)), (5, (0, 0)), (4, (4, 3)), (3, (4, 2)), (2, (4, 1)), (1, (4, 0)), (0, (6, 0))]) (stN := [(0, 0), (0, x2), (0, 2), (4, 1)]) (hsN := [jzA_265, jzA_266, jgh, jgh, jgh, jgh, jgh, jgh, jgh, jgh, jgh, jgh, jgh, jgh, jzA_322, (100, [], jS0), jgh, jgh, jgh, jgh, jgh, jgh, jgh, jgh, jgh, jgh, jgh, jgh, jgh, jgh, jgh, (117, [], [35, 36, 37, 38]), jgh, jgh, jgh, jgh, jgh, (7, [(4, 39), (4, (-1)), (4, (-1))], []), jgh, (114, [], [40]), jgh]) (rfl) (by simp only [List.cons.injEq, Prod.mk.injEq, and_true, true_and] <;> ((try unfold jw); (try unfold jwl); omega)) (rfl) ?_
  refine jT_xifT (pcN := 2381) jI_379_2374 rfl (by decide +kernel) rfl ?_
  refine jT_xiconst (k := 0) (pcN := 2382) jI_379_2381 rfl ?_
  refine jT_fB [1, 15, 16, 17, 18, 19, 20, 21, 22, 23, 24, 25, 26, 27, 28, 29] 41 (y := 279) (pcN := 2385) (dC := 2) (bc1 := 0) (bc2 := 0) (c1 := 0) (c2 := 0) (as := [(4, 1), (0, 2), (0, x2), (0, 0)]) (asC := [(4, 0), (0, 2), (0, x2), (0, 0)]) (LN := [(6, (0, 1)), (5, (0, 0)), (4, (4, 3)), (3, (4, 2)), (2, (4, 1)), (1, (4, 0)), (0, (6, 0))]) (stN := []) (hsC := jpA_1519) (hsD := jpA_1820) (v := (0, 0)) (st2 := [(0, 0)]) (hs2 := jpA_1929) (jA_279_985 (d := 0) (by omega)) (by rfl) (by rfl) (by decide +kernel) (by rfl) (by rfl) (by omega) (by omega) (by omega) (by omega) rfl (by decide +kernel) ?_
  refine jT_xistore (v := (0, 0)) (LN := [(7, (0, 0)), (6, (0, 1)), (5, (0, 0)), (4, (4, 3)), (3, (4, 2)), (2, (4, 1)), (1, (4, 0)), (0, (6, 0))]) (pcN := 2387) jI_379_2385 rfl rfl rfl rfl ?_
  refine jT_xaload_n (v := (4, 1)) (pcN := 2388) jI_379_2387 rfl rfl rfl ?_
  refine jT_fR [1, 15, 16, 17, 18, 19, 20, 21, 22, 23, 24, 25, 26, 27, 28, 29] 41 (y := 186) (pcN := 2391) (dC := 0) (bc1 := 0) (bc2 := 0) (c1 := 0) (c2 := 0) (as := [(4, 1)]) (asC := [(4, 0)]) (LN := [(7, (0, 0)), (6, (0, 1)), (5, (0, 0)), (4, (4, 3)), (3, (4, 2)), (2, (4, 1)), (1, (4, 0)), (0, (6, 0))]) (stN := []) (hsC := jpA_20) (v := (0, 1)) (st2 := [(0, 1)]) (jA_186_8 (d := 0)) (by rfl) (by rfl) (by decide +kernel) (by rfl) (by rfl) (by omega) (by omega) (by omega) (by omega) rfl ?_
  refine jT_xiload (v := (0, 1)) (pcN := 2393) jI_379_2391 rfl rfl rfl ?_
  refine jT_xicT (pcN := 2398) jI_379_2393 rfl (by decide +kernel) rfl ?_
  refine jT_xiload (v := (0, 1)) (pcN := 2400) jI_379_2398 rfl rfl rfl ?_
  refine jT_xifT (pcN := 2415) jI_379_2400 rfl (by decide +kernel) rfl ?_
  refine jT_xgoto (pcN := 3740) jI_379_2415 rfl ?_
  refine jT_xiinc (x := 0) (z := 5) (LN := [(5, (0, 5)), (7, (0, 0)), (6, (0, 1)), (4, (4, 3)), (3, (4, 2)), (2, (4, 1)), (1, (4, 0)), (0, (6, 0))]) (pcN := 3743) jI_379_3740 rfl rfl (by decide) rfl rfl ?_
  refine jT_xgoto (pcN := 28) jI_379_3743 rfl ?_
  refine jT_xiload (v := (0, 5)) (pcN := 30) jI_379_28 rfl rfl rfl ?_
  refine jT_xaload_n (v := (6, 0)) (pcN := 31) jI_379_30 rfl rfl rfl ?_
  refine jT_adv 1 (pcN := 32) (LN := [(5, (0, 5)), (7, (0, 0)), (6, (0, 1)), (4, (4, 3)), (3, (4, 2)), (2, (4, 1)), (1, (4, 0)), (0, (6, 0))]) (stN := [(0, 5), (0, 5)]) (hsN := jpA_1929) (c1 := 0) (s1 := 0) (c2 := 0) (s2 := 0) (by exact rfl) ?_ (by omega) (by omega)
  refine jT_xiconst (k := 5) (pcN := 33) jI_379_32 rfl ?_
  refine jT_xisub (x := 5) (y := 5) (z := 0) (pcN := 34) jI_379_33 rfl (by decide) rfl ?_
  refine jT_xicT (pcN := 3746) jI_379_34 rfl (by decide +kernel) rfl ?_
  refine jT_xiconst (k := 1) (pcN := 3747) jI_379_3746 rfl ?_
  exact jT_ret rfl (by decide) (by show 41 ≤ 41; decide) (by omega) (by omega) ⟨rfl, rfl⟩
def jpA_3719 : List JC := [jzA_265, jzA_266, (101, [], [0]), jgh, (8, [(4, 30), (4, 31)], []), jgh, jgh, jgh, jgh, jgh, jgh, jgh, jgh, jgh, jzA_721, (100, [], jS0), jgh, jgh, jgh, jgh, (130, [], [37, 38, 39, 40, 41, 42]), (101, [], [0, 0, 0, 0, 0, 0]), jgh, jgh, jgh, jgh, jgh, jgh, jgh, jgh, jgh, jgh, jgh, (117, [], [43, 44, 45, 46]), jgh, jgh, jgh, (100, [], (jenc (jlg 0))), jgh, jgh, jgh, jgh, jgh, jgh, jgh, (7, [(4, 47), (4, (-1)), (4, (-1))], []), jgh, (114, [], [48]), (4, [(4, 49), (1, 1)], []), (101, [], [0, 0, 0, 0, 0, 0]), (101, [], [0, 0, 0, 0, 0, 0]), (101, [], [1, 0, 0, 0, 0, 0]), (101, [], [1, 0, 0, 0, 0, 0]), (100, [], (jenc 0)), (100, [], (jenc 1)), (100, [], (jenc (1 * (jlg 0)))), (101, [], [(-1), 0, 0, 0, 0, 0]), (100, [], (jenc 0)), (100, [], (jenc (-1))), (100, [], (jenc ((-1) * (jlg 0))))]
set_option maxRecDepth 100000 in
theorem jL_30_22 {d : Nat} {x0 x1 x2 x3 x4 : Int} (h_x0 : (-2147483648) ≤ x0 ∧ x0 ≤ 2147483647) (h_x1 : 2 ≤ x1 ∧ x1 ≤ 2) (h_x2 : 0 ≤ x2 ∧ x2 ≤ 0) (h_x3 : 0 ≤ x3 ∧ x3 ≤ 0) (h_x4 : (-2147483648) ≤ x4 ∧ x4 ≤ 2147483647) : jT [x0, x1, x2, x3, x4] (d + 9) 379 50 2322 [(5, (0, 0)), (4, (4, 3)), (3, (4, 2)), (2, (4, 1)), (1, (4, 0)), (0, (6, 0))] [] jpA_3709 10 360 (fun k v hsN => k = 0 ∧ v = (0, 1)) := by
  refine jT_xaload_n (v := (4, 0)) (pcN := 2323) jI_379_2322 rfl rfl rfl ?_
  refine jT_xaload_n (v := (6, 0)) (pcN := 2324) jI_379_2323 rfl rfl rfl ?_
  refine jT_xiload (v := (0, 0)) (pcN := 2326) jI_379_2324 rfl rfl rfl ?_
  refine jT_xiconst (k := 1) (pcN := 2327) jI_379_2326 rfl ?_
  refine jT_xiadd (x := 0) (y := 1) (z := 1) (pcN := 2328) jI_379_2327 rfl (by decide) rfl ?_
  refine jT_adv 1 (pcN := 2329) (LN := [(5, (0, 0)), (4, (4, 3)), (3, (4, 2)), (2, (4, 1)), (1, (4, 0)), (0, (6, 0))]) (stN := [(0, x1), (4, 0)]) (hsN := jpA_3709) (c1 := 0) (s1 := 0) (c2 := 10) (s2 := 360) (by exact rfl) ?_ (by omega) (by omega)
  refine jT_eq (LN := [(5, (0, 0)), (4, (4, 3)), (3, (4, 2)), (2, (4, 1)), (1, (4, 0)), (0, (6, 0))]) (stN := [(0, 2), (4, 0)]) (hsN := [jzA_265, jzA_266, (101, [], [0]), jgh, (8, [(4, 30), (4, 31)], []), jgh, jgh, jgh, jgh, jgh, jgh, jgh, jgh, jgh, jzA_721, (100, [], jS0), jgh, jgh, jgh, jgh, (130, [], [37, 38, 39, 40, 41, 42]), (101, [], [0, 0, 0, 0, 0, 0]), jgh, jgh, jgh, jgh, jgh, jgh, jgh, jgh, jgh, jgh, jgh, (117, [], [43, 44, 45, 46]), jgh, jgh, jgh, (100, [], (jenc (jlg 0))), jgh, jgh, jgh, jgh, jgh, jgh, jgh, (7, [(4, 47), (4, (-1)), (4, (-1))], []), jgh, (114, [], [48]), (4, [(4, 49), (1, 1)], []), (101, [], [0, 0, 0, 0, 0, 0])]) (rfl) (by simp only [List.cons.injEq, Prod.mk.injEq, and_true, true_and] <;> ((try unfold jw); (try unfold jwl); omega)) (rfl) ?_
  refine jT_xaload_n (v := (6, 0)) (pcN := 2330) jI_379_2329 rfl rfl rfl ?_
  refine jT_xiload (v := (0, 0)) (pcN := 2332) jI_379_2330 rfl rfl rfl ?_
  refine jT_xiconst (k := 2) (pcN := 2333) jI_379_2332 rfl ?_
  refine jT_xiadd (x := 0) (y := 2) (z := 2) (pcN := 2334) jI_379_2333 rfl (by decide) rfl ?_
  refine jT_adv 1 (pcN := 2335) (LN := [(5, (0, 0)), (4, (4, 3)), (3, (4, 2)), (2, (4, 1)), (1, (4, 0)), (0, (6, 0))]) (stN := [(0, x2), (0, 2), (4, 0)]) (hsN := jpA_3709) (c1 := 0) (s1 := 0) (c2 := 10) (s2 := 360) (by exact rfl) ?_ (by omega) (by omega)
  refine jT_eq (LN := [(5, (0, 0)), (4, (4, 3)), (3, (4, 2)), (2, (4, 1)), (1, (4, 0)), (0, (6, 0))]) (stN := [(0, 0), (0, 2), (4, 0)]) (hsN := [jzA_265, jzA_266, (101, [], [0]), jgh, (8, [(4, 30), (4, 31)], []), jgh, jgh, jgh, jgh, jgh, jgh, jgh, jgh, jgh, jzA_721, (100, [], jS0), jgh, jgh, jgh, jgh, (130, [], [37, 38, 39, 40, 41, 42]), (101, [], [0, 0, 0, 0, 0, 0]), jgh, jgh, jgh, jgh, jgh, jgh, jgh, jgh, jgh, jgh, jgh, (117, [], [43, 44, 45, 46]), jgh, jgh, jgh, (100, [], (jenc (jlg 0))), jgh, jgh, jgh, jgh, jgh, jgh, jgh, (7, [(4, 47), (4, (-1)), (4, (-1))], []), jgh, (114, [], [48]), (4, [(4, 49), (1, 1)], []), (101, [], [0, 0, 0, 0, 0, 0])]) (rfl) (by simp only [List.cons.injEq, Prod.mk.injEq, and_true, true_and] <;> ((try unfold jw); (try unfold jwl); omega)) (rfl) ?_
  refine jT_xaload_n (v := (6, 0)) (pcN := 2336) jI_379_2335 rfl rfl rfl ?_
  refine jT_xiload (v := (0, 0)) (pcN := 2338) jI_379_2336 rfl rfl rfl ?_
  refine jT_xiconst (k := 3) (pcN := 2339) jI_379_2338 rfl ?_
  refine jT_xiadd (x := 0) (y := 3) (z := 3) (pcN := 2340) jI_379_2339 rfl (by decide) rfl ?_
  refine jT_adv 1 (pcN := 2341) (LN := [(5, (0, 0)), (4, (4, 3)), (3, (4, 2)), (2, (4, 1)), (1, (4, 0)), (0, (6, 0))]) (stN := [(0, x3), (0, 0), (0, 2), (4, 0)]) (hsN := jpA_3709) (c1 := 0) (s1 := 0) (c2 := 10) (s2 := 360) (by exact rfl) ?_ (by omega) (by omega)
  refine jT_eq (LN := [(5, (0, 0)), (4, (4, 3)), (3, (4, 2)), (2, (4, 1)), (1, (4, 0)), (0, (6, 0))]) (stN := [(0, 0), (0, 0), (0, 2), (4, 0)]) (hsN := [jzA_265, jzA_266, (101, [], [0]), jgh, (8, [(4, 30), (4, 31)], []), jgh, jgh, jgh, jgh, jgh, jgh, jgh, jgh, jgh, jzA_721, (100, [], jS0), jgh, jgh, jgh, jgh, (130, [], [37, 38, 39, 40, 41, 42]), (101, [], [0, 0, 0, 0, 0, 0]), jgh, jgh, jgh, jgh, jgh, jgh, jgh, jgh, jgh, jgh, jgh, (117, [], [43, 44, 45, 46]), jgh, jgh, jgh, (100, [], (jenc (jlg 0))), jgh, jgh, jgh, jgh, jgh, jgh, jgh, (7, [(4, 47), (4, (-1)), (4, (-1))], []), jgh, (114, [], [48]), (4, [(4, 49), (1, 1)], []), (101, [], [0, 0, 0, 0, 0, 0])]) (rfl) (by simp only [List.cons.injEq, Prod.mk.injEq, and_true, true_and] <;> ((try unfold jw); (try unfold jwl); omega)) (rfl) ?_
  refine jT_xifT (pcN := 2348) jI_379_2341 rfl (by decide +kernel) rfl ?_
  refine jT_xiconst (k := 0) (pcN := 2349) jI_379_2348 rfl ?_
  refine jT_xaload_n (v := (4, 2)) (pcN := 2350) jI_379_2349 rfl rfl rfl ?_
  refine jT_fR [0, 2, 4, 5, 6, 7, 8, 9, 10, 11, 12, 13, 14, 30, 31, 32, 33, 34, 35, 36, 43, 44, 45, 46, 47, 48, 49] 50 (y := 354) (pcN := 2353) (dC := 5) (bc1 := 0) (bc2 := 0) (c1 := 10) (c2 := 360) (as := [(4, 0), (0, 2), (0, 0), (0, 0), (4, 2)]) (asC := [(4, 0), (0, 2), (0, 0), (0, 0), (4, 1)]) (LN := [(5, (0, 0)), (4, (4, 3)), (3, (4, 2)), (2, (4, 1)), (1, (4, 0)), (0, (6, 0))]) (stN := []) (hsC := jpA_3644) (v := (0, 0)) (st2 := [(0, 0)]) (jA_354_987 (d := 0)) (by rfl) (by rfl) (by decide +kernel) (by rfl) (by rfl) (by omega) (by omega) (by omega) (by omega) rfl ?_
  refine jT_xistore (v := (0, 0)) (LN := [(6, (0, 0)), (5, (0, 0)), (4, (4, 3)), (3, (4, 2)), (2, (4, 1)), (1, (4, 0)), (0, (6, 0))]) (pcN := 2355) jI_379_2353 rfl rfl rfl rfl ?_
  refine jT_xaload_n (v := (4, 1)) (pcN := 2356) jI_379_2355 rfl rfl rfl ?_
  refine jT_xaload_n (v := (6, 0)) (pcN := 2357) jI_379_2356 rfl rfl rfl ?_
  refine jT_xiload (v := (0, 0)) (pcN := 2359) jI_379_2357 rfl rfl rfl ?_
  refine jT_xiconst (k := 1) (pcN := 2360) jI_379_2359 rfl ?_
  refine jT_xiadd (x := 0) (y := 1) (z := 1) (pcN := 2361) jI_379_2360 rfl (by decide) rfl ?_
  refine jT_adv 1 (pcN := 2362) (LN := [(6, (0, 0)), (5, (0, 0)), (4, (4, 3)), (3, (4, 2)), (2, (4, 1)), (1, (4, 0)), (0, (6, 0))]) (stN := [(0, x1), (4, 1)]) (hsN := jpA_3709) (c1 := 0) (s1 := 0) (c2 := 10) (s2 := 360) (by exact rfl) ?_ (by omega) (by omega)
  refine jT_eq (LN := [(6, (0, 0)), (5, (0, 0)), (4, (4, 3)), (3, (4, 2)), (2, (4, 1)), (1, (4, 0)), (0, (6, 0))]) (stN := [(0, 2), (4, 1)]) (hsN := [jzA_265, jzA_266, (101, [], [0]), jgh, (8, [(4, 30), (4, 31)], []), jgh, jgh, jgh, jgh, jgh, jgh, jgh, jgh, jgh, jzA_721, (100, [], jS0), jgh, jgh, jgh, jgh, (130, [], [37, 38, 39, 40, 41, 42]), (101, [], [0, 0, 0, 0, 0, 0]), jgh, jgh, jgh, jgh, jgh, jgh, jgh, jgh, jgh, jgh, jgh, (117, [], [43, 44, 45, 46]), jgh, jgh, jgh, (100, [], (jenc (jlg 0))), jgh, jgh, jgh, jgh, jgh, jgh, jgh, (7, [(4, 47), (4, (-1)), (4, (-1))], []), jgh, (114, [], [48]), (4, [(4, 49), (1, 1)], []), (101, [], [0, 0, 0, 0, 0, 0])]) (rfl) (by simp only [List.cons.injEq, Prod.mk.injEq, and_true, true_and] <;> ((try unfold jw); (try unfold jwl); omega)) (rfl) ?_
  refine jT_xaload_n (v := (6, 0)) (pcN := 2363) jI_379_2362 rfl rfl rfl ?_
  refine jT_xiload (v := (0, 0)) (pcN := 2365) jI_379_2363 rfl rfl rfl ?_
  refine jT_xiconst (k := 2) (pcN := 2366) jI_379_2365 rfl ?_
  refine jT_xiadd (x := 0) (y := 2) (z := 2) (pcN := 2367) jI_379_2366 rfl (by decide) rfl ?_
  refine jT_adv 1 (pcN := 2368) (LN := [(6, (0, 0)), (5, (0, 0)), (4, (4, 3)), (3, (4, 2)), (2, (4, 1)), (1, (4, 0)), (0, (6, 0))]) (stN := [(0, x2), (0, 2), (4, 1)]) (hsN := jpA_3709) (c1 := 0) (s1 := 0) (c2 := 10) (s2 := 360) (by exact rfl) ?_ (by omega) (by omega)
  refine jT_eq (LN := [(6, (0, 0)), (5, (0, 0)), (4, (4, 3)), (3, (4, 2)), (2, (4, 1)), (1, (4, 0)), (0, (6, 0))]) (stN := [(0, 0), (0, 2), (4, 1)]) (hsN := [jzA_265, jzA_266, (101, [], [0]), jgh, (8, [(4, 30), (4, 31)], []), jgh, jgh, jgh, jgh, jgh, jgh, jgh, jgh, jgh, jzA_721, (100, [], jS0), jgh, jgh, jgh, jgh, (130, [], [37, 38, 39, 40, 41, 42]), (101, [], [0, 0, 0, 0, 0, 0]), jgh, jgh, jgh, jgh, jgh, jgh, jgh, jgh, jgh, jgh, jgh, (117, [], [43, 44, 45, 46]), jgh, jgh, jgh, (100, [], (jenc (jlg 0))), jgh, jgh, jgh, jgh, jgh, jgh, jgh, (7, [(4, 47), (4, (-1)), (4, (-1))], []), jgh, (114, [], [48]), (4, [(4, 49), (1, 1)], []), (101, [], [0, 0, 0, 0, 0, 0])]) (rfl) (by simp only [List.cons.injEq, Prod.mk.injEq, and_true, true_and] <;> ((try unfold jw); (try unfold jwl); omega)) (rfl) ?_
  refine jT_xaload_n (v := (6, 0)) (pcN := 2369) jI_379_2368 rfl rfl rfl ?_
  refine jT_xiload (v := (0, 0)) (pcN := 2371) jI_379_2369 rfl rfl rfl ?_
  refine jT_xiconst (k := 3) (pcN := 2372) jI_379_2371 rfl ?_
  refine jT_xiadd (x := 0) (y := 3) (z := 3) (pcN := 2373) jI_379_2372 rfl (by decide) rfl ?_
  refine jT_adv 1 (pcN := 2374) (LN := [(6, (0, 0)), (5, (0, 0)), (4, (4, 3)), (3, (4, 2)), (2, (4, 1)), (1, (4, 0)), (0, (6, 0))]) (stN := [(0, x3), (0, 0), (0, 2), (4, 1)]) (hsN := jpA_3709) (c1 := 0) (s1 := 0) (c2 := 10) (s2 := 360) (by exact rfl) ?_ (by omega) (by omega)
  refine jT_eq (LN := [(6, (0, 0)), (5, (0, 0)), (4, (4, 3)), (3, (4, 2)), (2, (4, 1)), (1, (4, 0)), (0, (6, 0))]) (stN := [(0, 0), (0, 0), (0, 2), (4, 1)]) (hsN := [jzA_265, jzA_266, (101, [], [0]), jgh, (8, [(4, 30), (4, 31)], []), jgh, jgh, jgh, jgh, jgh, jgh, jgh, jgh, jgh, jzA_721, (100, [], jS0), jgh, jgh, jgh, jgh, (130, [], [37, 38, 39, 40, 41, 42]), (101, [], [0, 0, 0, 0, 0, 0]), jgh, jgh, jgh, jgh, jgh, jgh, jgh, jgh, jgh, jgh, jgh, (117, [], [43, 44, 45, 46]), jgh, jgh, jgh, (100, [], (jenc (jlg 0))), jgh, jgh, jgh, jgh, jgh, jgh, jgh, (7, [(4, 47), (4, (-1)), (4, (-1))], []), jgh, (114, [], [48]), (4, [(4, 49), (1, 1)], []), (101, [], [0, 0, 0, 0, 0, 0])]) (rfl) (by simp only [List.cons.injEq, Prod.mk.injEq, and_true, true_and] <;> ((try unfold jw); (try unfold jwl); omega)) (rfl) ?_
  refine jT_xifT (pcN := 2381) jI_379_2374 rfl (by decide +kernel) rfl ?_
  refine jT_xiconst (k := 0) (pcN := 2382) jI_379_2381 rfl ?_
  refine jT_fA [1, 15, 16, 17, 18, 19, 20, 21, 22, 23, 24, 25, 26, 27, 28, 29, 37, 38, 39, 40, 41, 42] 50 (y := 279) (pcN := 2385) (dC := 8) (bc1 := 10) (bc2 := 360) (c1 := 0) (c2 := 0) (as := [(4, 1), (0, 2), (0, 0), (0, 0)]) (asC := [(4, 0), (0, 2), (0, 0), (0, 0)]) (LN := [(6, (0, 0)), (5, (0, 0)), (4, (4, 3)), (3, (4, 2)), (2, (4, 1)), (1, (4, 0)), (0, (6, 0))]) (stN := []) (hsC := jpA_1695) (ex := jpA_3654) (v := (0, 0)) (st2 := [(0, 0)]) (hs2 := jpA_3719) (jA_279_988 (d := 0)) (by rfl) (by rfl) (by decide +kernel) (by rfl) (by rfl) (by omega) (by omega) (by omega) (by omega) rfl (by decide +kernel) ?_
  refine jT_xistore (v := (0, 0)) (LN := [(7, (0, 0)), (6, (0, 0)), (5, (0, 0)), (4, (4, 3)), (3, (4, 2)), (2, (4, 1)), (1, (4, 0)), (0, (6, 0))]) (pcN := 2387) jI_379_2385 rfl rfl rfl rfl ?_
  refine jT_xaload_n (v := (4, 1)) (pcN := 2388) jI_379_2387 rfl rfl rfl ?_
  refine jT_fR [1, 15, 16, 17, 18, 19, 20, 21, 22, 23, 24, 25, 26, 27, 28, 29] 60 (y := 186) (pcN := 2391) (dC := 0) (bc1 := 0) (bc2 := 0) (c1 := 0) (c2 := 0) (as := [(4, 1)]) (asC := [(4, 0)]) (LN := [(7, (0, 0)), (6, (0, 0)), (5, (0, 0)), (4, (4, 3)), (3, (4, 2)), (2, (4, 1)), (1, (4, 0)), (0, (6, 0))]) (stN := []) (hsC := jpA_22) (v := (0, 0)) (st2 := [(0, 0)]) (jA_186_726 (d := 0)) (by rfl) (by rfl) (by decide +kernel) (by rfl) (by rfl) (by omega) (by omega) (by omega) (by omega) rfl ?_
  refine jT_xiload (v := (0, 0)) (pcN := 2393) jI_379_2391 rfl rfl rfl ?_
  refine jT_xicT (pcN := 2398) jI_379_2393 rfl (by decide +kernel) rfl ?_
  refine jT_xiload (v := (0, 0)) (pcN := 2400) jI_379_2398 rfl rfl rfl ?_
  refine jT_xifF (t := 2415) (pcN := 2403) jI_379_2400 rfl (by decide +kernel) rfl rfl ?_
  refine jT_xaload_n (v := (4, 2)) (pcN := 2404) jI_379_2403 rfl rfl rfl ?_
  refine jT_xiconst (k := 0) (pcN := 2405) jI_379_2404 rfl ?_
  refine jT_lald (x := 0) (a := 2) (j := 0) (fs := []) (X := [0]) jI_379_2405 rfl rfl rfl rfl ?_
  refine jT_eq (LN := [(7, (0, 0)), (6, (0, 0)), (5, (0, 0)), (4, (4, 3)), (3, (4, 2)), (2, (4, 1)), (1, (4, 0)), (0, (6, 0))]) (stN := [(1, 0)]) (hsN := jpA_3719) rfl rfl rfl ?_
  refine jT_xiload (v := (0, 0)) (pcN := 2408) jI_379_2406 rfl rfl rfl ?_
  refine jT_xi2l (x := 0) (z := 0) (pcN := 2409) jI_379_2408 rfl (by decide +kernel) rfl ?_
  refine jT_lcmp (a := 0) (b := 0) (z := 0) (by rfl) (by rfl) (by decide +kernel) (by decide +kernel) (by decide) ?_
  refine jT_xifT (pcN := 2415) jI_379_2410 rfl (by decide +kernel) rfl ?_
  refine jT_xgoto (pcN := 3740) jI_379_2415 rfl ?_
  refine jT_xiinc (x := 0) (z := 5) (LN := [(5, (0, 5)), (7, (0, 0)), (6, (0, 0)), (4, (4, 3)), (3, (4, 2)), (2, (4, 1)), (1, (4, 0)), (0, (6, 0))]) (pcN := 3743) jI_379_3740 rfl rfl (by decide) rfl rfl ?_
  refine jT_xgoto (pcN := 28) jI_379_3743 rfl ?_
  refine jT_xiload (v := (0, 5)) (pcN := 30) jI_379_28 rfl rfl rfl ?_
  refine jT_xaload_n (v := (6, 0)) (pcN := 31) jI_379_30 rfl rfl rfl ?_
  refine jT_adv 1 (pcN := 32) (LN := [(5, (0, 5)), (7, (0, 0)), (6, (0, 0)), (4, (4, 3)), (3, (4, 2)), (2, (4, 1)), (1, (4, 0)), (0, (6, 0))]) (stN := [(0, 5), (0, 5)]) (hsN := jpA_3719) (c1 := 0) (s1 := 0) (c2 := 0) (s2 := 0) (by exact rfl) ?_ (by omega) (by omega)
  refine jT_xiconst (k := 5) (pcN := 33) jI_379_32 rfl ?_
  refine jT_xisub (x := 5) (y := 5) (z := 0) (pcN := 34) jI_379_33 rfl (by decide) rfl ?_
  refine jT_xicT (pcN := 3746) jI_379_34 rfl (by decide +kernel) rfl ?_
  refine jT_xiconst (k := 1) (pcN := 3747) jI_379_3746 rfl ?_
  exact jT_ret rfl (by decide) (by show 50 ≤ 60; decide) (by omega) (by omega) ⟨rfl, rfl⟩
set_option maxRecDepth 100000 in
theorem jL_30_23 {d : Nat} {x0 x1 x2 x3 x4 : Int} (h_x0 : (-2147483648) ≤ x0 ∧ x0 ≤ 2147483647) (h_x1 : 2 ≤ x1 ∧ x1 ≤ 2) (h_x2 : 1 ≤ x2 ∧ x2 ≤ 2147483647) (h_x3 : 0 ≤ x3 ∧ x3 ≤ 0) (h_x4 : (-2147483648) ≤ x4 ∧ x4 ≤ 2147483647) : jT [x0, x1, x2, x3, x4] (d + 3) 379 41 2322 [(5, (0, 0)), (4, (4, 3)), (3, (4, 2)), (2, (4, 1)), (1, (4, 0)), (0, (6, 0))] [] jpA_1928 1 6 (fun k v hsN => k = 0 ∧ v = (0, 1)) := by
  refine jT_xaload_n (v := (4, 0)) (pcN := 2323) jI_379_2322 rfl rfl rfl ?_
  refine jT_xaload_n (v := (6, 0)) (pcN := 2324) jI_379_2323 rfl rfl rfl ?_
  refine jT_xiload (v := (0, 0)) (pcN := 2326) jI_379_2324 rfl rfl rfl ?_
  refine jT_xiconst (k := 1) (pcN := 2327) jI_379_2326 rfl ?_
  refine jT_xiadd (x := 0) (y := 1) (z := 1) (pcN := 2328) jI_379_2327 rfl (by decide) rfl ?_
  refine jT_adv 1 (pcN := 2329) (LN := [(5, (0, 0)), (4, (4, 3)), (3, (4, 2)), (2, (4, 1)), (1, (4, 0)), (0, (6, 0))]) (stN := [(0, x1), (4, 0)]) (hsN := jpA_1928) (c1 := 0) (s1 := 0) (c2 := 1) (s2 := 6) (by exact rfl) ?_ (by omega) (by omega)
  refine jT_eq (LN := [(5, (0, 0)), (4, (4, 3)), (3, (4, 2)), (2, (4, 1)), (1, (4, 0)), (0, (6, 0))]) (stN := [(0, 2), (4, 0)]) (hsN := [jzA_265, jzA_266, jgh, jgh, jgh, jgh, jgh, jgh, jgh, jgh, jgh, jgh, jgh, jgh, jzA_322, (100, [], jS0), jgh, jgh, jgh, jgh, jgh, jgh, jgh, jgh, jgh, jgh, jgh, jgh, jgh, jgh, jgh, (117, [], [35, 36, 37, 38]), jgh, jgh, jgh, jgh, jgh, (7, [(4, 39), (4, (-1)), (4, (-1))], []), jgh, (114, [], [40]), jgh]) (rfl) (by simp only [List.cons.injEq, Prod.mk.injEq, and_true, true_and] <;> ((try unfold jw); (try unfold jwl); omega)) (rfl) ?_
  refine jT_xaload_n (v := (6, 0)) (pcN := 2330) jI_379_2329 rfl rfl rfl ?_
  refine jT_xiload (v := (0, 0)) (pcN := 2332) jI_379_2330 rfl rfl rfl ?_
  refine jT_xiconst (k := 2) (pcN := 2333) jI_379_2332 rfl ?_
  refine jT_xiadd (x := 0) (y := 2) (z := 2) (pcN := 2334) jI_379_2333 rfl (by decide) rfl ?_
  refine jT_adv 1 (pcN := 2335) (LN := [(5, (0, 0)), (4, (4, 3)), (3, (4, 2)), (2, (4, 1)), (1, (4, 0)), (0, (6, 0))]) (stN := [(0, x2), (0, 2), (4, 0)]) (hsN := jpA_1928) (c1 := 0) (s1 := 0) (c2 := 1) (s2 := 6) (by exact rfl) ?_ (by omega) (by omega)
  refine jT_xaload_n (v := (6, 0)) (pcN := 2336) jI_379_2335 rfl rfl rfl ?_
  refine jT_xiload (v := (0, 0)) (pcN := 2338) jI_379_2336 rfl rfl rfl ?_
  refine jT_xiconst (k := 3) (pcN := 2339) jI_379_2338 rfl ?_
  refine jT_xiadd (x := 0) (y := 3) (z := 3) (pcN := 2340) jI_379_2339 rfl (by decide) rfl ?_
  refine jT_adv 1 (pcN := 2341) (LN := [(5, (0, 0)), (4, (4, 3)), (3, (4, 2)), (2, (4, 1)), (1, (4, 0)), (0, (6, 0))]) (stN := [(0, x3), (0, x2), (0, 2), (4, 0)]) (hsN := jpA_1928) (c1 := 0) (s1 := 0) (c2 := 1) (s2 := 6) (by exact rfl) ?_ (by omega) (by omega)
  refine jT_eq (LN := [(5, (0, 0)), (4, (4, 3)), (3, (4, 2)), (2, (4, 1)), (1, (4, 0)), (0, (6, 0))]) (stN := [(0, 0), (0, x2), (0, 2), (4, 0)]) (hsN := [jzA_265, jzA_266, jgh, jgh, jgh, jgh, jgh, jgh, jgh, jgh, jgh, jgh, jgh, jgh, jzA_322, (100, [], jS0), jgh, jgh, jgh, jgh, jgh, jgh, jgh, jgh, jgh, jgh, jgh, jgh, jgh, jgh, jgh, (117, [], [35, 36, 37, 38]), jgh, jgh, jgh, jgh, jgh, (7, [(4, 39), (4, (-1)), (4, (-1))], []), jgh, (114, [], [40]), jgh]) (rfl) (by simp only [List.cons.injEq, Prod.mk.injEq, and_true, true_and] <;> ((try unfold jw); (try unfold jwl); omega)) (rfl) ?_
  refine jT_xifT (pcN := 2348) jI_379_2341 rfl (by decide +kernel) rfl ?_
  refine jT_xiconst (k := 0) (pcN := 2349) jI_379_2348 rfl ?_
  refine jT_xaload_n (v := (4, 2)) (pcN := 2350) jI_379_2349 rfl rfl rfl ?_
  refine jT_fR [0, 2, 4, 5, 6, 7, 8, 9, 10, 11, 12, 13, 14, 30, 31, 32, 33, 34, 35, 36, 37, 38, 39, 40] 41 (y := 354) (pcN := 2353) (dC := 2) (bc1 := 1) (bc2 := 6) (c1 := 0) (c2 := 0) (as := [(4, 0), (0, 2), (0, x2), (0, 0), (4, 2)]) (asC := [(4, 0), (0, 2), (0, x2), (0, 0), (4, 1)]) (LN := [(5, (0, 0)), (4, (4, 3)), (3, (4, 2)), (2, (4, 1)), (1, (4, 0)), (0, (6, 0))]) (stN := []) (hsC := jpA_1859) (v := (0, 1)) (st2 := [(0, 1)]) (jA_354_990 (d := 0) (by omega)) (by rfl) (by rfl) (by decide +kernel) (by rfl) (by rfl) (by omega) (by omega) (by omega) (by omega) rfl ?_
  refine jT_xistore (v := (0, 1)) (LN := [(6, (0, 1)), (5, (0, 0)), (4, (4, 3)), (3, (4, 2)), (2, (4, 1)), (1, (4, 0)), (0, (6, 0))]) (pcN := 2355) jI_379_2353 rfl rfl rfl rfl ?_
  refine jT_xaload_n (v := (4, 1)) (pcN := 2356) jI_379_2355 rfl rfl rfl ?_
  refine jT_xaload_n (v := (6, 0)) (pcN := 2357) jI_379_2356 rfl rfl rfl ?_
  refine jT_xiload (v := (0, 0)) (pcN := 2359) jI_379_2357 rfl rfl rfl ?_
  refine jT_xiconst (k := 1) (pcN := 2360) jI_379_2359 rfl ?_
  refine jT_xiadd (x := 0) (y := 1) (z := 1) (pcN := 2361) jI_379_2360 rfl (by decide) rfl ?_
  refine jT_adv 1 (pcN := 2362) (LN := [(6, (0, 1)), (5, (0, 0)), (4, (4, 3)), (3, (4, 2)), (2, (4, 1)), (1, (4, 0)), (0, (6, 0))]) (stN := [(0, x1), (4, 1)]) (hsN := jpA_1928) (c1 := 0) (s1 := 0) (c2 := 0) (s2 := 0) (by exact rfl) ?_ (by omega) (by omega)
  refine jT_eq (LN := [(6, (0, 1)), (5, (0, 0)), (4, (4, 3)), (3, (4, 2)), (2, (4, 1)), (1, (4, 0)), (0, (6, 0))]) (stN := [(0, 2), (4, 1)]) (hsN := [jzA_265, jzA_266, jgh, jgh, jgh, jgh, jgh, jgh, jgh, jgh, jgh, jgh, jgh, jgh, jzA_322, (100, [], jS0), jgh, jgh, jgh, jgh, jgh, jgh, jgh, jgh, jgh, jgh, jgh, jgh, jgh, jgh, jgh, (117, [], [35, 36, 37, 38]), jgh, jgh, jgh, jgh, jgh, (7, [(4, 39), (4, (-1)), (4, (-1))], []), jgh, (114, [], [40]), jgh]) (rfl) (by simp only [List.cons.injEq, Prod.mk.injEq, and_true, true_and] <;> ((try unfold jw); (try unfold jwl); omega)) (rfl) ?_
  refine jT_xaload_n (v := (6, 0)) (pcN := 2363) jI_379_2362 rfl rfl rfl ?_
  refine jT_xiload (v := (0, 0)) (pcN := 2365) jI_379_2363 rfl rfl rfl ?_
  refine jT_xiconst (k := 2) (pcN := 2366) jI_379_2365 rfl ?_
  refine jT_xiadd (x := 0) (y := 2) (z := 2) (pcN := 2367) jI_379_2366 rfl (by decide) rfl ?_
  refine jT_adv 1 (pcN := 2368) (LN := [(6, (0, 1)), (5, (0, 0)), (4, (4, 3)), (3, (4, 2)), (2, (4, 1)), (1, (4, 0)), (0, (6, 0))]) (stN := [(0, x2), (0, 2), (4, 1)]) (hsN := jpA_1928) (c1 := 0) (s1 := 0) (c2 := 0) (s2 := 0) (by exact rfl) ?_ (by omega) (by omega)
  refine jT_xaload_n (v := (6, 0)) (pcN := 2369) jI_379_2368 rfl rfl rfl ?_
  refine jT_xiload (v := (0, 0)) (pcN := 2371) jI_379_2369 rfl rfl rfl ?_
  refine jT_xiconst (k := 3) (pcN := 2372) jI_379_2371 rfl ?_
  refine jT_xiadd (x := 0) (y := 3) (z := 3) (pcN := 2373) jI_379_2372 rfl (by decide) rfl ?_
  refine jT_adv 1 (pcN := 2374) (LN := [(6, (0, 1)), (5, (0, 0)), (4, (4, 3)), (3, (4, 2)), (2, (4, 1)), (1, (4, 0)), (0, (6, 0))]) (stN := [(0, x3), (0, x2), (0, 2), (4, 1)]) (hsN := jpA_1928) (c1 := 0) (s1 := 0) (c2 := 0) (s2 := 0) (by exact rfl) ?_ (by omega) (by omega)
  refine jT_eq (LN := [(6, (0, 1)), (5, (0, 0)), (4, (4, 3)), (3, (4, 2)), (2, (4, 1)), (1, (4, 0)), (0, (6, 0))]) (stN := [(0, 0), (0, x2), (0, 2), (4, 1)]) (hsN := [jzA_265, jzA_266, jgh, jgh, jgh, jgh, jgh, jgh, jgh, jgh, jgh, jgh, jgh, jgh, jzA_322, (100, [], jS0), jgh, jgh, jgh, jgh, jgh, jgh, jgh, jgh, jgh, jgh, jgh, jgh, jgh, jgh, jgh, (117, [], [35, 36, 37, 38]), jgh, jgh, jgh, jgh, jgh, (7, [(4, 39), (4, (-1)), (4, (-1))], []), jgh, (114, [], [40]), jgh]) (rfl) (by simp only [List.cons.injEq, Prod.mk.injEq, and_true, true_and] <;> ((try unfold jw); (try unfold jwl); omega)) (rfl) ?_
  refine jT_xifT (pcN := 2381) jI_379_2374 rfl (by decide +kernel) rfl ?_
  refine jT_xiconst (k := 0) (pcN := 2382) jI_379_2381 rfl ?_
  refine jT_fB [1, 15, 16, 17, 18, 19, 20, 21, 22, 23, 24, 25, 26, 27, 28, 29] 41 (y := 279) (pcN := 2385) (dC := 2) (bc1 := 0) (bc2 := 0) (c1 := 0) (c2 := 0) (as := [(4, 1), (0, 2), (0, x2), (0, 0)]) (asC := [(4, 0), (0, 2), (0, x2), (0, 0)]) (LN := [(6, (0, 1)), (5, (0, 0)), (4, (4, 3)), (3, (4, 2)), (2, (4, 1)), (1, (4, 0)), (0, (6, 0))]) (stN := []) (hsC := jpA_1519) (hsD := jpA_1820) (v := (0, 0)) (st2 := [(0, 0)]) (hs2 := jpA_1929) (jA_279_991 (d := 0) (by omega)) (by rfl) (by rfl) (by decide +kernel) (by rfl) (by rfl) (by omega) (by omega) (by omega) (by omega) rfl (by decide +kernel) ?_
  refine jT_xistore (v := (0, 0)) (LN := [(7, (0, 0)), (6, (0, 1)), (5, (0, 0)), (4, (4, 3)), (3, (4, 2)), (2, (4, 1)), (1, (4, 0)), (0, (6, 0))]) (pcN := 2387) jI_379_2385 rfl rfl rfl rfl ?_
  refine jT_xaload_n (v := (4, 1)) (pcN := 2388) jI_379_2387 rfl rfl rfl ?_
  refine jT_fR [1, 15, 16, 17, 18, 19, 20, 21, 22, 23, 24, 25, 26, 27, 28, 29] 41 (y := 186) (pcN := 2391) (dC := 0) (bc1 := 0) (bc2 := 0) (c1 := 0) (c2 := 0) (as := [(4, 1)]) (asC := [(4, 0)]) (LN := [(7, (0, 0)), (6, (0, 1)), (5, (0, 0)), (4, (4, 3)), (3, (4, 2)), (2, (4, 1)), (1, (4, 0)), (0, (6, 0))]) (stN := []) (hsC := jpA_20) (v := (0, 1)) (st2 := [(0, 1)]) (jA_186_8 (d := 0)) (by rfl) (by rfl) (by decide +kernel) (by rfl) (by rfl) (by omega) (by omega) (by omega) (by omega) rfl ?_
  refine jT_xiload (v := (0, 1)) (pcN := 2393) jI_379_2391 rfl rfl rfl ?_
  refine jT_xicT (pcN := 2398) jI_379_2393 rfl (by decide +kernel) rfl ?_
  refine jT_xiload (v := (0, 1)) (pcN := 2400) jI_379_2398 rfl rfl rfl ?_
  refine jT_xifT (pcN := 2415) jI_379_2400 rfl (by decide +kernel) rfl ?_
  refine jT_xgoto (pcN := 3740) jI_379_2415 rfl ?_
  refine jT_xiinc (x := 0) (z := 5) (LN := [(5, (0, 5)), (7, (0, 0)), (6, (0, 1)), (4, (4, 3)), (3, (4, 2)), (2, (4, 1)), (1, (4, 0)), (0, (6, 0))]) (pcN := 3743) jI_379_3740 rfl rfl (by decide) rfl rfl ?_
  refine jT_xgoto (pcN := 28) jI_379_3743 rfl ?_
  refine jT_xiload (v := (0, 5)) (pcN := 30) jI_379_28 rfl rfl rfl ?_
  refine jT_xaload_n (v := (6, 0)) (pcN := 31) jI_379_30 rfl rfl rfl ?_
  refine jT_adv 1 (pcN := 32) (LN := [(5, (0, 5)), (7, (0, 0)), (6, (0, 1)), (4, (4, 3)), (3, (4, 2)), (2, (4, 1)), (1, (4, 0)), (0, (6, 0))]) (stN := [(0, 5), (0, 5)]) (hsN := jpA_1929) (c1 := 0) (s1 := 0) (c2 := 0) (s2 := 0) (by exact rfl) ?_ (by omega) (by omega)
  refine jT_xiconst (k := 5) (pcN := 33) jI_379_32 rfl ?_
  refine jT_xisub (x := 5) (y := 5) (z := 0) (pcN := 34) jI_379_33 rfl (by decide) rfl ?_
  refine jT_xicT (pcN := 3746) jI_379_34 rfl (by decide +kernel) rfl ?_
  refine jT_xiconst (k := 1) (pcN := 3747) jI_379_3746 rfl ?_
  exact jT_ret rfl (by decide) (by show 41 ≤ 41; decide) (by omega) (by omega) ⟨rfl, rfl⟩
set_option maxRecDepth 100000 in
theorem jL_30_24 {d : Nat} {x0 x1 x2 x3 x4 : Int} (h_x0 : (-2147483648) ≤ x0 ∧ x0 ≤ 2147483647) (h_x1 : 3 ≤ x1 ∧ x1 ≤ 3) (h_x2 : (-2147483648) ≤ x2 ∧ x2 ≤ (-1)) (h_x3 : 0 ≤ x3 ∧ x3 ≤ 0) (h_x4 : (-2147483648) ≤ x4 ∧ x4 ≤ 2147483647) : jT [x0, x1, x2, x3, x4] (d + 3) 379 41 2322 [(5, (0, 0)), (4, (4, 3)), (3, (4, 2)), (2, (4, 1)), (1, (4, 0)), (0, (6, 0))] [] jpA_1933 1 6 (fun k v hsN => k = 0 ∧ v = (0, 1)) := by
  refine jT_xaload_n (v := (4, 0)) (pcN := 2323) jI_379_2322 rfl rfl rfl ?_
  refine jT_xaload_n (v := (6, 0)) (pcN := 2324) jI_379_2323 rfl rfl rfl ?_
  refine jT_xiload (v := (0, 0)) (pcN := 2326) jI_379_2324 rfl rfl rfl ?_
  refine jT_xiconst (k := 1) (pcN := 2327) jI_379_2326 rfl ?_
  refine jT_xiadd (x := 0) (y := 1) (z := 1) (pcN := 2328) jI_379_2327 rfl (by decide) rfl ?_
  refine jT_adv 1 (pcN := 2329) (LN := [(5, (0, 0)), (4, (4, 3)), (3, (4, 2)), (2, (4, 1)), (1, (4, 0)), (0, (6, 0))]) (stN := [(0, x1), (4, 0)]) (hsN := jpA_1933) (c1 := 0) (s1 := 0) (c2 := 1) (s2 := 6) (by exact rfl) ?_ (by omega) (by omega)
  refine jT_eq (LN := [(5, (0, 0)), (4, (4, 3)), (3, (4, 2)), (2, (4, 1)), (1, (4, 0)), (0, (6, 0))]) (stN := [(0, 3), (4, 0)]) (hsN := [jzA_265, jzA_266, jgh, jgh, jgh, jgh, jgh, jgh, jgh, jgh, jgh, jgh, jgh, jgh, jzA_322, (100, [], jS0), jgh, jgh, jgh, jgh, jgh, jgh, jgh, jgh, jgh, jgh, jgh, jgh, jgh, jgh, jgh, (117, [], [35, 36, 37, 38]), jgh, jgh, jgh, jgh, jgh, jgh, (7, [(4, 39), (4, (-1)), (4, (-1))], []), (114, [], [40]), jgh]) (rfl) (by simp only [List.cons.injEq, Prod.mk.injEq, and_true, true_and] <;> ((try unfold jw); (try unfold jwl); omega)) (rfl) ?_
  refine jT_xaload_n (v := (6, 0)) (pcN := 2330) jI_379_2329 rfl rfl rfl ?_
  refine jT_xiload (v := (0, 0)) (pcN := 2332) jI_379_2330 rfl rfl rfl ?_
  refine jT_xiconst (k := 2) (pcN := 2333) jI_379_2332 rfl ?_
  refine jT_xiadd (x := 0) (y := 2) (z := 2) (pcN := 2334) jI_379_2333 rfl (by decide) rfl ?_
  refine jT_adv 1 (pcN := 2335) (LN := [(5, (0, 0)), (4, (4, 3)), (3, (4, 2)), (2, (4, 1)), (1, (4, 0)), (0, (6, 0))]) (stN := [(0, x2), (0, 3), (4, 0)]) (hsN := jpA_1933) (c1 := 0) (s1 := 0) (c2 := 1) (s2 := 6) (by exact rfl) ?_ (by omega) (by omega)
  refine jT_xaload_n (v := (6, 0)) (pcN := 2336) jI_379_2335 rfl rfl rfl ?_
  refine jT_xiload (v := (0, 0)) (pcN := 2338) jI_379_2336 rfl rfl rfl ?_
  refine jT_xiconst (k := 3) (pcN := 2339) jI_379_2338 rfl ?_
  refine jT_xiadd (x := 0) (y := 3) (z := 3) (pcN := 2340) jI_379_2339 rfl (by decide) rfl ?_
  refine jT_adv 1 (pcN := 2341) (LN := [(5, (0, 0)), (4, (4, 3)), (3, (4, 2)), (2, (4, 1)), (1, (4, 0)), (0, (6, 0))]) (stN := [(0, x3), (0, x2), (0, 3), (4, 0)]) (hsN := jpA_1933) (c1 := 0) (s1 := 0) (c2 := 1) (s2 := 6) (by exact rfl) ?_ (by omega) (by omega)
  refine jT_eq (LN := [(5, (0, 0)), (4, (4, 3)), (3, (4, 2)), (2, (4, 1)), (1, (4, 0)), (0, (6, 0))]) (stN := [(0, 0), (0, x2), (0, 3), (4, 0)]) (hsN := [jzA_265, jzA_266, jgh, jgh, jgh, jgh, jgh, jgh, jgh, jgh, jgh, jgh, jgh, jgh, jzA_322, (100, [], jS0), jgh, jgh, jgh, jgh, jgh, jgh, jgh, jgh, jgh, jgh, jgh, jgh, jgh, jgh, jgh, (117, [], [35, 36, 37, 38]), jgh, jgh, jgh, jgh, jgh, jgh, (7, [(4, 39), (4, (-1)), (4, (-1))], []), (114, [], [40]), jgh]) (rfl) (by simp only [List.cons.injEq, Prod.mk.injEq, and_true, true_and] <;> ((try unfold jw); (try unfold jwl); omega)) (rfl) ?_
  refine jT_xifT (pcN := 2348) jI_379_2341 rfl (by decide +kernel) rfl ?_
  refine jT_xiconst (k := 0) (pcN := 2349) jI_379_2348 rfl ?_
  refine jT_xaload_n (v := (4, 2)) (pcN := 2350) jI_379_2349 rfl rfl rfl ?_
  refine jT_fR [0, 2, 4, 5, 6, 7, 8, 9, 10, 11, 12, 13, 14, 30, 31, 32, 33, 34, 35, 36, 37, 38, 39, 40] 41 (y := 354) (pcN := 2353) (dC := 2) (bc1 := 1) (bc2 := 6) (c1 := 0) (c2 := 0) (as := [(4, 0), (0, 3), (0, x2), (0, 0), (4, 2)]) (asC := [(4, 0), (0, 3), (0, x2), (0, 0), (4, 1)]) (LN := [(5, (0, 0)), (4, (4, 3)), (3, (4, 2)), (2, (4, 1)), (1, (4, 0)), (0, (6, 0))]) (stN := []) (hsC := jpA_1872) (v := (0, 1)) (st2 := [(0, 1)]) (jA_354_993 (d := 0) (by omega)) (by rfl) (by rfl) (by decide +kernel) (by rfl) (by rfl) (by omega) (by omega) (by omega) (by omega) rfl ?_
  refine jT_xistore (v := (0, 1)) (LN := [(6, (0, 1)), (5, (0, 0)), (4, (4, 3)), (3, (4, 2)), (2, (4, 1)), (1, (4, 0)), (0, (6, 0))]) (pcN := 2355) jI_379_2353 rfl rfl rfl rfl ?_
  refine jT_xaload_n (v := (4, 1)) (pcN := 2356) jI_379_2355 rfl rfl rfl ?_
  refine jT_xaload_n (v := (6, 0)) (pcN := 2357) jI_379_2356 rfl rfl rfl ?_
  refine jT_xiload (v := (0, 0)) (pcN := 2359) jI_379_2357 rfl rfl rfl ?_
  refine jT_xiconst (k := 1) (pcN := 2360) jI_379_2359 rfl ?_
  refine jT_xiadd (x := 0) (y := 1) (z := 1) (pcN := 2361) jI_379_2360 rfl (by decide) rfl ?_
  refine jT_adv 1 (pcN := 2362) (LN := [(6, (0, 1)), (5, (0, 0)), (4, (4, 3)), (3, (4, 2)), (2, (4, 1)), (1, (4, 0)), (0, (6, 0))]) (stN := [(0, x1), (4, 1)]) (hsN := jpA_1933) (c1 := 0) (s1 := 0) (c2 := 0) (s2 := 0) (by exact rfl) ?_ (by omega) (by omega)
  refine jT_eq (LN := [(6, (0, 1)), (5, (0, 0)), (4, (4, 3)), (3, (4, 2)), (2, (4, 1)), (1, (4, 0)), (0, (6, 0))]) (stN := [(0, 3), (4, 1)]) (hsN := [jzA_265, jzA_266, jgh, jgh, jgh, jgh, jgh, jgh, jgh, jgh, jgh, jgh, jgh, jgh, jzA_322, (100, [], jS0), jgh, jgh, jgh, jgh, jgh, jgh, jgh, jgh, jgh, jgh, jgh, jgh, jgh, jgh, jgh, (117, [], [35, 36, 37, 38]), jgh, jgh, jgh, jgh, jgh, jgh, (7, [(4, 39), (4, (-1)), (4, (-1))], []), (114, [], [40]), jgh]) (rfl) (by simp only [List.cons.injEq, Prod.mk.injEq, and_true, true_and] <;> ((try unfold jw); (try unfold jwl); omega)) (rfl) ?_
  refine jT_xaload_n (v := (6, 0)) (pcN := 2363) jI_379_2362 rfl rfl rfl ?_
  refine jT_xiload (v := (0, 0)) (pcN := 2365) jI_379_2363 rfl rfl rfl ?_
  refine jT_xiconst (k := 2) (pcN := 2366) jI_379_2365 rfl ?_
  refine jT_xiadd (x := 0) (y := 2) (z := 2) (pcN := 2367) jI_379_2366 rfl (by decide) rfl ?_
  refine jT_adv 1 (pcN := 2368) (LN := [(6, (0, 1)), (5, (0, 0)), (4, (4, 3)), (3, (4, 2)), (2, (4, 1)), (1, (4, 0)), (0, (6, 0))]) (stN := [(0, x2), (0, 3), (4, 1)]) (hsN := jpA_1933) (c1 := 0) (s1 := 0) (c2 := 0) (s2 := 0) (by exact rfl) ?_ (by omega) (by omega)
  refine jT_xaload_n (v := (6, 0)) (pcN := 2369) jI_379_2368 rfl rfl rfl ?_
  refine jT_xiload (v := (0, 0)) (pcN := 2371) jI_379_2369 rfl rfl rfl ?_
  refine jT_xiconst (k := 3) (pcN := 2372) jI_379_2371 rfl ?_
  refine jT_xiadd (x := 0) (y := 3) (z := 3) (pcN := 2373) jI_379_2372 rfl (by decide) rfl ?_
  refine jT_adv 1 (pcN := 2374) (LN := [(6, (0, 1)), (5, (0, 0)), (4, (4, 3)), (3, (4, 2)), (2, (4, 1)), (1, (4, 0)), (0, (6, 0))]) (stN := [(0, x3), (0, x2), (0, 3), (4, 1)]) (hsN := jpA_1933) (c1 := 0) (s1 := 0) (c2 := 0) (s2 := 0) (by exact rfl) ?_ (by omega) (by omega)
  refine jT_eq (LN := [(6, (0, 1)), (5, (0, 0)), (4, (4, 3)), (3, (4, 2)), (2, (4, 1)), (1, (4, 0)), (0, (6, 0))]) (stN := [(0, 0), (0, x2), (0, 3), (4, 1)]) (hsN := [jzA_265, jzA_266, jgh, jgh, jgh, jgh, jgh, jgh, jgh, jgh, jgh, jgh, jgh, jgh, jzA_322, (100, [], jS0), jgh, jgh, jgh, jgh, jgh, jgh, jgh, jgh, jgh, jgh, jgh, jgh, jgh, jgh, jgh, (117, [], [35, 36, 37, 38]), jgh, jgh, jgh, jgh, jgh, jgh, (7, [(4, 39), (4, (-1)), (4, (-1))], []), (114, [], [40]), jgh]) (rfl) (by simp only [List.cons.injEq, Prod.mk.injEq, and_true, true_and] <;> ((try unfold jw); (try unfold jwl); omega)) (rfl) ?_
  refine jT_xifT (pcN := 2381) jI_379_2374 rfl (by decide +kernel) rfl ?_
  refine jT_xiconst (k := 0) (pcN := 2382) jI_379_2381 rfl ?_
  refine jT_fB [1, 15, 16, 17, 18, 19, 20, 21, 22, 23, 24, 25, 26, 27, 28, 29] 41 (y := 279) (pcN := 2385) (dC := 2) (bc1 := 0) (bc2 := 0) (c1 := 0) (c2 := 0) (as := [(4, 1), (0, 3), (0, x2), (0, 0)]) (asC := [(4, 0), (0, 3), (0, x2), (0, 0)]) (LN := [(6, (0, 1)), (5, (0, 0)), (4, (4, 3)), (3, (4, 2)), (2, (4, 1)), (1, (4, 0)), (0, (6, 0))]) (stN := []) (hsC := jpA_1519) (hsD := jpA_1820) (v := (0, 0)) (st2 := [(0, 0)]) (hs2 := jpA_1934) (jA_279_994 (d := 0) (by omega)) (by rfl) (by rfl) (by decide +kernel) (by rfl) (by rfl) (by omega) (by omega) (by omega) (by omega) rfl (by decide +kernel) ?_
  refine jT_xistore (v := (0, 0)) (LN := [(7, (0, 0)), (6, (0, 1)), (5, (0, 0)), (4, (4, 3)), (3, (4, 2)), (2, (4, 1)), (1, (4, 0)), (0, (6, 0))]) (pcN := 2387) jI_379_2385 rfl rfl rfl rfl ?_
  refine jT_xaload_n (v := (4, 1)) (pcN := 2388) jI_379_2387 rfl rfl rfl ?_
  refine jT_fR [1, 15, 16, 17, 18, 19, 20, 21, 22, 23, 24, 25, 26, 27, 28, 29] 41 (y := 186) (pcN := 2391) (dC := 0) (bc1 := 0) (bc2 := 0) (c1 := 0) (c2 := 0) (as := [(4, 1)]) (asC := [(4, 0)]) (LN := [(7, (0, 0)), (6, (0, 1)), (5, (0, 0)), (4, (4, 3)), (3, (4, 2)), (2, (4, 1)), (1, (4, 0)), (0, (6, 0))]) (stN := []) (hsC := jpA_20) (v := (0, 1)) (st2 := [(0, 1)]) (jA_186_8 (d := 0)) (by rfl) (by rfl) (by decide +kernel) (by rfl) (by rfl) (by omega) (by omega) (by omega) (by omega) rfl ?_
  refine jT_xiload (v := (0, 1)) (pcN := 2393) jI_379_2391 rfl rfl rfl ?_
  refine jT_xicT (pcN := 2398) jI_379_2393 rfl (by decide +kernel) rfl ?_
  refine jT_xiload (v := (0, 1)) (pcN := 2400) jI_379_2398 rfl rfl rfl ?_
  refine jT_xifT (pcN := 2415) jI_379_2400 rfl (by decide +kernel) rfl ?_
  refine jT_xgoto (pcN := 3740) jI_379_2415 rfl ?_
  refine jT_xiinc (x := 0) (z := 5) (LN := [(5, (0, 5)), (7, (0, 0)), (6, (0, 1)), (4, (4, 3)), (3, (4, 2)), (2, (4, 1)), (1, (4, 0)), (0, (6, 0))]) (pcN := 3743) jI_379_3740 rfl rfl (by decide) rfl rfl ?_
  refine jT_xgoto (pcN := 28) jI_379_3743 rfl ?_
  refine jT_xiload (v := (0, 5)) (pcN := 30) jI_379_28 rfl rfl rfl ?_
  refine jT_xaload_n (v := (6, 0)) (pcN := 31) jI_379_30 rfl rfl rfl ?_
  refine jT_adv 1 (pcN := 32) (LN := [(5, (0, 5)), (7, (0, 0)), (6, (0, 1)), (4, (4, 3)), (3, (4, 2)), (2, (4, 1)), (1, (4, 0)), (0, (6, 0))]) (stN := [(0, 5), (0, 5)]) (hsN := jpA_1934) (c1 := 0) (s1 := 0) (c2 := 0) (s2 := 0) (by exact rfl) ?_ (by omega) (by omega)
  refine jT_xiconst (k := 5) (pcN := 33) jI_379_32 rfl ?_
  refine jT_xisub (x := 5) (y := 5) (z := 0) (pcN := 34) jI_379_33 rfl (by decide) rfl ?_
  refine jT_xicT (pcN := 3746) jI_379_34 rfl (by decide +kernel) rfl ?_
  refine jT_xiconst (k := 1) (pcN := 3747) jI_379_3746 rfl ?_
  exact jT_ret rfl (by decide) (by show 41 ≤ 41; decide) (by omega) (by omega) ⟨rfl, rfl⟩
def jpA_3720 : List JC := [jzA_265, jzA_266, (101, [], [0]), jgh, (8, [(4, 30), (4, 31)], []), jgh, jgh, jgh, jgh, jgh, jgh, jgh, jgh, jgh, jzA_721, (100, [], jS0), jgh, jgh, jgh, jgh, (130, [], [37, 38, 39, 40, 41, 42]), (101, [], [0, 0, 0, 0, 0, 0]), jgh, jgh, jgh, jgh, jgh, jgh, jgh, jgh, jgh, jgh, jgh, (117, [], [43, 44, 45, 46]), jgh, jgh, jgh, (100, [], (jenc (jlg 0))), jgh, jgh, jgh, jgh, jgh, jgh, jgh, jgh, (7, [(4, 47), (4, (-1)), (4, (-1))], []), (114, [], [48]), (4, [(4, 49), (1, 1)], []), (101, [], [0, 0, 0, 0, 0, 0]), (101, [], [0, 0, 0, 0, 0, 0]), (101, [], [1, 0, 0, 0, 0, 0]), (101, [], [1, 0, 0, 0, 0, 0]), (100, [], (jenc 0)), (100, [], (jenc 1)), (100, [], (jenc (1 * (jlg 0)))), (101, [], [(-1), 0, 0, 0, 0, 0]), (100, [], (jenc 0)), (100, [], (jenc (-1))), (100, [], (jenc ((-1) * (jlg 0))))]
set_option maxRecDepth 100000 in
theorem jL_30_25 {d : Nat} {x0 x1 x2 x3 x4 : Int} (h_x0 : (-2147483648) ≤ x0 ∧ x0 ≤ 2147483647) (h_x1 : 3 ≤ x1 ∧ x1 ≤ 3) (h_x2 : 0 ≤ x2 ∧ x2 ≤ 0) (h_x3 : 0 ≤ x3 ∧ x3 ≤ 0) (h_x4 : (-2147483648) ≤ x4 ∧ x4 ≤ 2147483647) : jT [x0, x1, x2, x3, x4] (d + 9) 379 50 2322 [(5, (0, 0)), (4, (4, 3)), (3, (4, 2)), (2, (4, 1)), (1, (4, 0)), (0, (6, 0))] [] jpA_3712 10 360 (fun k v hsN => k = 0 ∧ v = (0, 1)) := by
  refine jT_xaload_n (v := (4, 0)) (pcN := 2323) jI_379_2322 rfl rfl rfl ?_
  refine jT_xaload_n (v := (6, 0)) (pcN := 2324) jI_379_2323 rfl rfl rfl ?_
  refine jT_xiload (v := (0, 0)) (pcN := 2326) jI_379_2324 rfl rfl rfl ?_
  refine jT_xiconst (k := 1) (pcN := 2327) jI_379_2326 rfl ?_
  refine jT_xiadd (x := 0) (y := 1) (z := 1) (pcN := 2328) jI_379_2327 rfl (by decide) rfl ?_
  refine jT_adv 1 (pcN := 2329) (LN := [(5, (0, 0)), (4, (4, 3)), (3, (4, 2)), (2, (4, 1)), (1, (4, 0)), (0, (6, 0))]) (stN := [(0, x1), (4, 0)]) (hsN := jpA_3712) (c1 := 0) (s1 := 0) (c2 := 10) (s2 := 360) (by exact rfl) ?_ (by omega) (by omega)
  refine jT_eq (LN := [(5, (0, 0)), (4, (4, 3)), (3, (4, 2)), (2, (4, 1)), (1, (4, 0)), (0, (6, 0))]) (stN := [(0, 3), (4, 0)]) (hsN := [jzA_265, jzA_266, (101, [], [0]), jgh, (8, [(4, 30), (4, 31)], []), jgh, jgh, jgh, jgh, jgh, jgh, jgh, jgh, jgh, jzA_721, (100, [], jS0), jgh, jgh, jgh, jgh, (130, [], [37, 38, 39, 40, 41, 42]), (101, [], [0, 0, 0, 0, 0, 0]), jgh, jgh, jgh, jgh, jgh, jgh, jgh, jgh, jgh, jgh, jgh, (117, [], [43, 44, 45, 46]), jgh, jgh, jgh, (100, [], (jenc (jlg 0))), jgh, jgh, jgh, jgh, jgh, jgh, jgh, jgh, (7, [(4, 47), (4, (-1)), (4, (-1))], []), (114, [], [48]), (4, [(4, 49), (1, 1)], []), (101, [], [0, 0, 0, 0, 0, 0])]) (rfl) (by simp only [List.cons.injEq, Prod.mk.injEq, and_true, true_and] <;> ((try unfold jw); (try unfold jwl); omega)) (rfl) ?_
  refine jT_xaload_n (v := (6, 0)) (pcN := 2330) jI_379_2329 rfl rfl rfl ?_
  refine jT_xiload (v := (0, 0)) (pcN := 2332) jI_379_2330 rfl rfl rfl ?_
  refine jT_xiconst (k := 2) (pcN := 2333) jI_379_2332 rfl ?_
  refine jT_xiadd (x := 0) (y := 2) (z := 2) (pcN := 2334) jI_379_2333 rfl (by decide) rfl ?_
  refine jT_adv 1 (pcN := 2335) (LN := [(5, (0, 0)), (4, (4, 3)), (3, (4, 2)), (2, (4, 1)), (1, (4, 0)), (0, (6, 0))]) (stN := [(0, x2), (0, 3), (4, 0)]) (hsN := jpA_3712) (c1 := 0) (s1 := 0) (c2 := 10) (s2 := 360) (by exact rfl) ?_ (by omega) (by omega)
  refine jT_eq (LN := [(5, (0, 0)), (4, (4, 3)), (3, (4, 2)), (2, (4, 1)), (1, (4, 0)), (0, (6, 0))]) (stN := [(0, 0), (0, 3), (4, 0)]) (hsN := [jzA_265, jzA_266, (101, [], [0]), jgh, (8, [(4, 30), (4, 31)], []), jgh, jgh, jgh, jgh, jgh, jgh, jgh, jgh, jgh, jzA_721, (100, [], jS0), jgh, jgh, jgh, jgh, (130, [], [37, 38, 39, 40, 41, 42]), (101, [], [0, 0, 0, 0, 0, 0]), jgh, jgh, jgh, jgh, jgh, jgh, jgh, jgh, jgh, jgh, jgh, (117, [], [43, 44, 45, 46]), jgh, jgh, jgh, (100, [], (jenc (jlg 0))), jgh, jgh, jgh, jgh, jgh, jgh, jgh, jgh, (7, [(4, 47), (4, (-1)), (4, (-1))], []), (114, [], [48]), (4, [(4, 49), (1, 1)], []), (101, [], [0, 0, 0, 0, 0, 0])]) (rfl) (by simp only [List.cons.injEq, Prod.mk.injEq, and_true, true_and] <;> ((try unfold jw); (try unfold jwl); omega)) (rfl) ?_
  refine jT_xaload_n (v := (6, 0)) (pcN := 2336) jI_379_2335 rfl rfl rfl ?_
  refine jT_xiload (v := (0, 0)) (pcN := 2338) jI_379_2336 rfl rfl rfl ?_
  refine jT_xiconst (k := 3) (pcN := 2339) jI_379_2338 rfl ?_
  refine jT_xiadd (x := 0) (y := 3) (z := 3) (pcN := 2340) jI_379_2339 rfl (by decide) rfl ?_
  refine jT_adv 1 (pcN := 2341) (LN := [(5, (0, 0)), (4, (4, 3)), (3, (4, 2)), (2, (4, 1)), (1, (4, 0)), (0, (6, 0))]) (stN := [(0, x3), (0, 0), (0, 3), (4, 0)]) (hsN := jpA_3712) (c1 := 0) (s1 := 0) (c2 := 10) (s2 := 360) (by exact rfl) ?_ (by omega) (by omega)
  refine jT_eq (LN := [(5, (0, 0)), (4, (4, 3)), (3, (4, 2)), (2, (4, 1)), (1, (4, 0)), (0, (6, 0))]) (stN := [(0, 0), (0, 0), (0, 3), (4, 0)]) (hsN := [jzA_265, jzA_266, (101, [], [0]), jgh, (8, [(4, 30), (4, 31)], []), jgh, jgh, jgh, jgh, jgh, jgh, jgh, jgh, jgh, jzA_721, (100, [], jS0), jgh, jgh, jgh, jgh, (130, [], [37, 38, 39, 40, 41, 42]), (101, [], [0, 0, 0, 0, 0, 0]), jgh, jgh, jgh, jgh, jgh, jgh, jgh, jgh, jgh, jgh, jgh, (117, [], [43, 44, 45, 46]), jgh, jgh, jgh, (100, [], (jenc (jlg 0))), jgh, jgh, jgh, jgh, jgh, jgh, jgh, jgh, (7, [(4, 47), (4, (-1)), (4, (-1))], []), (114, [], [48]), (4, [(4, 49), (1, 1)], []), (101, [], [0, 0, 0, 0, 0, 0])]) (rfl) (by simp only [List.cons.injEq, Prod.mk.injEq, and_true, true_and] <;> ((try unfold jw); (try unfold jwl); omega)) (rfl) ?_
  refine jT_xifT (pcN := 2348) jI_379_2341 rfl (by decide +kernel) rfl ?_
  refine jT_xiconst (k := 0) (pcN := 2349) jI_379_2348 rfl ?_
  refine jT_xaload_n (v := (4, 2)) (pcN := 2350) jI_379_2349 rfl rfl rfl ?_
  refine jT_fR [0, 2, 4, 5, 6, 7, 8, 9, 10, 11, 12, 13, 14, 30, 31, 32, 33, 34, 35, 36, 43, 44, 45, 46, 47, 48, 49] 50 (y := 354) (pcN := 2353) (dC := 5) (bc1 := 0) (bc2 := 0) (c1 := 10) (c2 := 360) (as := [(4, 0), (0, 3), (0, 0), (0, 0), (4, 2)]) (asC := [(4, 0), (0, 3), (0, 0), (0, 0), (4, 1)]) (LN := [(5, (0, 0)), (4, (4, 3)), (3, (4, 2)), (2, (4, 1)), (1, (4, 0)), (0, (6, 0))]) (stN := []) (hsC := jpA_3649) (v := (0, 0)) (st2 := [(0, 0)]) (jA_354_996 (d := 0)) (by rfl) (by rfl) (by decide +kernel) (by rfl) (by rfl) (by omega) (by omega) (by omega) (by omega) rfl ?_
  refine jT_xistore (v := (0, 0)) (LN := [(6, (0, 0)), (5, (0, 0)), (4, (4, 3)), (3, (4, 2)), (2, (4, 1)), (1, (4, 0)), (0, (6, 0))]) (pcN := 2355) jI_379_2353 rfl rfl rfl rfl ?_
  refine jT_xaload_n (v := (4, 1)) (pcN := 2356) jI_379_2355 rfl rfl rfl ?_
  refine jT_xaload_n (v := (6, 0)) (pcN := 2357) jI_379_2356 rfl rfl rfl ?_
  refine jT_xiload (v := (0, 0)) (pcN := 2359) jI_379_2357 rfl rfl rfl ?_
  refine jT_xiconst (k := 1) (pcN := 2360) jI_379_2359 rfl ?_
  refine jT_xiadd (x := 0) (y := 1) (z := 1) (pcN := 2361) jI_379_2360 rfl (by decide) rfl ?_
  refine jT_adv 1 (pcN := 2362) (LN := [(6, (0, 0)), (5, (0, 0)), (4, (4, 3)), (3, (4, 2)), (2, (4, 1)), (1, (4, 0)), (0, (6, 0))]) (stN := [(0, x1), (4, 1)]) (hsN := jpA_3712) (c1 := 0) (s1 := 0) (c2 := 10) (s2 := 360) (by exact rfl) ?_ (by omega) (by omega)
  refine jT_eq (LN := [(6, (0, 0)), (5, (0, 0)), (4, (4, 3)), (3, (4, 2)), (2, (4, 1)), (1, (4, 0)), (0, (6, 0))]) (stN := [(0, 3), (4, 1)]) (hsN := [jzA_265, jzA_266, (101, [], [0]), jgh, (8, [(4, 30), (4, 31)], []), jgh, jgh, jgh, jgh, jgh, jgh, jgh, jgh, jgh, jzA_721, (100, [], jS0), jgh, jgh, jgh, jgh, (130, [], [37, 38, 39, 40, 41, 42]), (101, [], [0, 0, 0, 0, 0, 0]), jgh, jgh, jgh, jgh, jgh, jgh, jgh, jgh, jgh, jgh, jgh, (117, [], [43, 44, 45, 46]), jgh, jgh, jgh, (100, [], (jenc (jlg 0))), jgh, jgh, jgh, jgh, jgh, jgh, jgh, jgh, (7, [(4, 47), (4, (-1)), (4, (-1))], []), (114, [], [48]), (4, [(4, 49), (1, 1)], []), (101, [], [0, 0, 0, 0, 0, 0])]) (rfl) (by simp only [List.cons.injEq, Prod.mk.injEq, and_true, true_and] <;> ((try unfold jw); (try unfold jwl); omega)) (rfl) ?_
  refine jT_xaload_n (v := (6, 0)) (pcN := 2363) jI_379_2362 rfl rfl rfl ?_
  refine jT_xiload (v := (0, 0)) (pcN := 2365) jI_379_2363 rfl rfl rfl ?_
  refine jT_xiconst (k := 2) (pcN := 2366) jI_379_2365 rfl ?_
  refine jT_xiadd (x := 0) (y := 2) (z := 2) (pcN := 2367) jI_379_2366 rfl (by decide) rfl ?_
  refine jT_adv 1 (pcN := 2368) (LN := [(6, (0, 0)), (5, (0, 0)), (4, (4, 3)), (3, (4, 2)), (2, (4, 1)), (1, (4, 0)), (0, (6, 0))]) (stN := [(0, x2), (0, 3), (4, 1)]) (hsN := jpA_3712) (c1 := 0) (s1 := 0) (c2 := 10) (s2 := 360) (by exact rfl) ?_ (by omega) (by omega)
  refine jT_eq (LN := [(6, (0, 0)), (5, (0, 0)), (4, (4, 3)), (3, (4, 2)), (2, (4, 1)), (1, (4, 0)), (0, (6, 0))]) (stN := [(0, 0), (0, 3), (4, 1)]) (hsN := [jzA_265, jzA_266, (101, [], [0]), jgh, (8, [(4, 30), (4, 31)], []), jgh, jgh, jgh, jgh, jgh, jgh, jgh, jgh, jgh, jzA_721, (100, [], jS0), jgh, jgh, jgh, jgh, (130, [], [37, 38, 39, 40, 41, 42]), (101, [], [0, 0, 0, 0, 0, 0]), jgh, jgh, jgh, jgh, jgh, jgh, jgh, jgh, jgh, jgh, jgh, (117, [], [43, 44, 45, 46]), jgh, jgh, jgh, (100, [], (jenc (jlg 0))), jgh, jgh, jgh, jgh, jgh, jgh, jgh, jgh, (7, [(4, 47), (4, (-1)), (4, (-1))], []), (114, [], [48]), (4, [(4, 49), (1, 1)], []), (101, [], [0, 0, 0, 0, 0, 0])]) (rfl) (by simp only [List.cons.injEq, Prod.mk.injEq, and_true, true_and] <;> ((try unfold jw); (try unfold jwl); omega)) (rfl) ?_
  refine jT_xaload_n (v := (6, 0)) (pcN := 2369) jI_379_2368 rfl rfl rfl ?_
  refine jT_xiload (v := (0, 0)) (pcN := 2371) jI_379_2369 rfl rfl rfl ?_
  refine jT_xiconst (k := 3) (pcN := 2372) jI_379_2371 rfl ?_
  refine jT_xiadd (x := 0) (y := 3) (z := 3) (pcN := 2373) jI_379_2372 rfl (by decide) rfl ?_
  refine jT_adv 1 (pcN := 2374) (LN := [(6, (0, 0)), (5, (0, 0)), (4, (4, 3)), (3, (4, 2)), (2, (4, 1)), (1, (4, 0)), (0, (6, 0))]) (stN := [(0, x3), (0, 0), (0, 3), (4, 1)]) (hsN := jpA_3712) (c1 := 0) (s1 := 0) (c2 := 10) (s2 := 360) (by exact rfl) ?_ (by omega) (by omega)
  refine jT_eq (LN := [(6, (0, 0)), (5, (0, 0)), (4, (4, 3)), (3, (4, 2)), (2, (4, 1)), (1, (4, 0)), (0, (6, 0))]) (stN := [(0, 0), (0, 0), (0, 3), (4, 1)]) (hsN := [jzA_265, jzA_266, (101, [], [0]), jgh, (8, [(4, 30), (4, 31)], []), jgh, jgh, jgh, jgh, jgh, jgh, jgh, jgh, jgh, jzA_721, (100, [], jS0), jgh, jgh, jgh, jgh, (130, [], [37, 38, 39, 40, 41, 42]), (101, [], [0, 0, 0, 0, 0, 0]), jgh, jgh, jgh, jgh, jgh, jgh, jgh, jgh, jgh, jgh, jgh, (117, [], [43, 44, 45, 46]), jgh, jgh, jgh, (100, [], (jenc (jlg 0))), jgh, jgh, jgh, jgh, jgh, jgh, jgh, jgh, (7, [(4, 47), (4, (-1)), (4, (-1))], []), (114, [], [48]), (4, [(4, 49), (1, 1)], []), (101, [], [0, 0, 0, 0, 0, 0])]) (rfl) (by simp only [List.cons.injEq, Prod.mk.injEq, and_true, true_and] <;> ((try unfold jw); (try unfold jwl); omega)) (rfl) ?_
  refine jT_xifT (pcN := 2381) jI_379_2374 rfl (by decide +kernel) rfl ?_
  refine jT_xiconst (k := 0) (pcN := 2382) jI_379_2381 rfl ?_
  refine jT_fA [1, 15, 16, 17, 18, 19, 20, 21, 22, 23, 24, 25, 26, 27, 28, 29, 37, 38, 39, 40, 41, 42] 50 (y := 279) (pcN := 2385) (dC := 8) (bc1 := 10) (bc2 := 360) (c1 := 0) (c2 := 0) (as := [(4, 1), (0, 3), (0, 0), (0, 0)]) (asC := [(4, 0), (0, 3), (0, 0), (0, 0)]) (LN := [(6, (0, 0)), (5, (0, 0)), (4, (4, 3)), (3, (4, 2)), (2, (4, 1)), (1, (4, 0)), (0, (6, 0))]) (stN := []) (hsC := jpA_1695) (ex := jpA_3654) (v := (0, 0)) (st2 := [(0, 0)]) (hs2 := jpA_3720) (jA_279_997 (d := 0)) (by rfl) (by rfl) (by decide +kernel) (by rfl) (by rfl) (by omega) (by omega) (by omega) (by omega) rfl (by decide +kernel) ?_
  refine jT_xistore (v := (0, 0)) (LN := [(7, (0, 0)), (6, (0, 0)), (5, (0, 0)), (4, (4, 3)), (3, (4, 2)), (2, (4, 1)), (1, (4, 0)), (0, (6, 0))]) (pcN := 2387) jI_379_2385 rfl rfl rfl rfl ?_
  refine jT_xaload_n (v := (4, 1)) (pcN := 2388) jI_379_2387 rfl rfl rfl ?_
  refine jT_fR [1, 15, 16, 17, 18, 19, 20, 21, 22, 23, 24, 25, 26, 27, 28, 29] 60 (y := 186) (pcN := 2391) (dC := 0) (bc1 := 0) (bc2 := 0) (c1 := 0) (c2 := 0) (as := [(4, 1)]) (asC := [(4, 0)]) (LN := [(7, (0, 0)), (6, (0, 0)), (5, (0, 0)), (4, (4, 3)), (3, (4, 2)), (2, (4, 1)), (1, (4, 0)), (0, (6, 0))]) (stN := []) (hsC := jpA_22) (v := (0, 0)) (st2 := [(0, 0)]) (jA_186_726 (d := 0)) (by rfl) (by rfl) (by decide +kernel) (by rfl) (by rfl) (by omega) (by omega) (by omega) (by omega) rfl ?_
  refine jT_xiload (v := (0, 0)) (pcN := 2393) jI_379_2391 rfl rfl rfl ?_
  refine jT_xicT (pcN := 2398) jI_379_2393 rfl (by decide +kernel) rfl ?_
  refine jT_xiload (v := (0, 0)) (pcN := 2400) jI_379_2398 rfl rfl rfl ?_
  refine jT_xifF (t := 2415) (pcN := 2403) jI_379_2400 rfl (by decide +kernel) rfl rfl ?_
  refine jT_xaload_n (v := (4, 2)) (pcN := 2404) jI_379_2403 rfl rfl rfl ?_
  refine jT_xiconst (k := 0) (pcN := 2405) jI_379_2404 rfl ?_
  refine jT_lald (x := 0) (a := 2) (j := 0) (fs := []) (X := [0]) jI_379_2405 rfl rfl rfl rfl ?_
  refine jT_eq (LN := [(7, (0, 0)), (6, (0, 0)), (5, (0, 0)), (4, (4, 3)), (3, (4, 2)), (2, (4, 1)), (1, (4, 0)), (0, (6, 0))]) (stN := [(1, 0)]) (hsN := jpA_3720) rfl rfl rfl ?_
  refine jT_xiload (v := (0, 0)) (pcN := 2408) jI_379_2406 rfl rfl rfl ?_
  refine jT_xi2l (x := 0) (z := 0) (pcN := 2409) jI_379_2408 rfl (by decide +kernel) rfl ?_
  refine jT_lcmp (a := 0) (b := 0) (z := 0) (by rfl) (by rfl) (by decide +kernel) (by decide +kernel) (by decide) ?_
  refine jT_xifT (pcN := 2415) jI_379_2410 rfl (by decide +kernel) rfl ?_
  refine jT_xgoto (pcN := 3740) jI_379_2415 rfl ?_
  refine jT_xiinc (x := 0) (z := 5) (LN := [(5, (0, 5)), (7, (0, 0)), (6, (0, 0)), (4, (4, 3)), (3, (4, 2)), (2, (4, 1)), (1, (4, 0)), (0, (6, 0))]) (pcN := 3743) jI_379_3740 rfl rfl (by decide) rfl rfl ?_
  refine jT_xgoto (pcN := 28) jI_379_3743 rfl ?_
  refine jT_xiload (v := (0, 5)) (pcN := 30) jI_379_28 rfl rfl rfl ?_
  refine jT_xaload_n (v := (6, 0)) (pcN := 31) jI_379_30 rfl rfl rfl ?_
  refine jT_adv 1 (pcN := 32) (LN := [(5, (0, 5)), (7, (0, 0)), (6, (0, 0)), (4, (4, 3)), (3, (4, 2)), (2, (4, 1)), (1, (4, 0)), (0, (6, 0))]) (stN := [(0, 5), (0, 5)]) (hsN := jpA_3720) (c1 := 0) (s1 := 0) (c2 := 0) (s2 := 0) (by exact rfl) ?_ (by omega) (by omega)
  refine jT_xiconst (k := 5) (pcN := 33) jI_379_32 rfl ?_
  refine jT_xisub (x := 5) (y := 5) (z := 0) (pcN := 34) jI_379_33 rfl (by decide) rfl ?_
  refine jT_xicT (pcN := 3746) jI_379_34 rfl (by decide +kernel) rfl ?_
  refine jT_xiconst (k := 1) (pcN := 3747) jI_379_3746 rfl ?_
  exact jT_ret rfl (by decide) (by show 50 ≤ 60; decide) (by omega) (by omega) ⟨rfl, rfl⟩
set_option maxRecDepth 100000 in
theorem jL_30_26 {d : Nat} {x0 x1 x2 x3 x4 : Int} (h_x0 : (-2147483648) ≤ x0 ∧ x0 ≤ 2147483647) (h_x1 : 3 ≤ x1 ∧ x1 ≤ 3) (h_x2 : 1 ≤ x2 ∧ x2 ≤ 2147483647) (h_x3 : 0 ≤ x3 ∧ x3 ≤ 0) (h_x4 : (-2147483648) ≤ x4 ∧ x4 ≤ 2147483647) : jT [x0, x1, x2, x3, x4] (d + 3) 379 41 2322 [(5, (0, 0)), (4, (4, 3)), (3, (4, 2)), (2, (4, 1)), (1, (4, 0)), (0, (6, 0))] [] jpA_1933 1 6 (fun k v hsN => k = 0 ∧ v = (0, 1)) := by
  refine jT_xaload_n (v := (4, 0)) (pcN := 2323) jI_379_2322 rfl rfl rfl ?_
  refine jT_xaload_n (v := (6, 0)) (pcN := 2324) jI_379_2323 rfl rfl rfl ?_
  refine jT_xiload (v := (0, 0)) (pcN := 2326) jI_379_2324 rfl rfl rfl ?_
  refine jT_xiconst (k := 1) (pcN := 2327) jI_379_2326 rfl ?_
  refine jT_xiadd (x := 0) (y := 1) (z := 1) (pcN := 2328) jI_379_2327 rfl (by decide) rfl ?_
  refine jT_adv 1 (pcN := 2329) (LN := [(5, (0, 0)), (4, (4, 3)), (3, (4, 2)), (2, (4, 1)), (1, (4, 0)), (0, (6, 0))]) (stN := [(0, x1), (4, 0)]) (hsN := jpA_1933) (c1 := 0) (s1 := 0) (c2 := 1) (s2 := 6) (by exact rfl) ?_ (by omega) (by omega)
  refine jT_eq (LN := [(5, (0, 0)), (4, (4, 3)), (3, (4, 2)), (2, (4, 1)), (1, (4, 0)), (0, (6, 0))]) (stN := [(0, 3), (4, 0)]) (hsN := [jzA_265, jzA_266, jgh, jgh, jgh, jgh, jgh, jgh, jgh, jgh, jgh, jgh, jgh, jgh, jzA_322, (100, [], jS0), jgh, jgh, jgh, jgh, jgh, jgh, jgh, jgh, jgh, jgh, jgh, jgh, jgh, jgh, jgh, (117, [], [35, 36, 37, 38]), jgh, jgh, jgh, jgh, jgh, jgh, (7, [(4, 39), (4, (-1)), (4, (-1))], []), (114, [], [40]), jgh]) (rfl) (by simp only [List.cons.injEq, Prod.mk.injEq, and_true, true_and] <;> ((try unfold jw); (try unfold jwl); omega)) (rfl) ?_
  refine jT_xaload_n (v := (6, 0)) (pcN := 2330) jI_379_2329 rfl rfl rfl ?_
  refine jT_xiload (v := (0, 0)) (pcN := 2332) jI_379_2330 rfl rfl rfl ?_
  refine jT_xiconst (k := 2) (pcN := 2333) jI_379_2332 rfl ?_
  refine jT_xiadd (x := 0) (y := 2) (z := 2) (pcN := 2334) jI_379_2333 rfl (by decide) rfl ?_
  refine jT_adv 1 (pcN := 2335) (LN := [(5, (0, 0)), (4, (4, 3)), (3, (4, 2)), (2, (4, 1)), (1, (4, 0)), (0, (6, 0))]) (stN := [(0, x2), (0, 3), (4, 0)]) (hsN := jpA_1933) (c1 := 0) (s1 := 0) (c2 := 1) (s2 := 6) (by exact rfl) ?_ (by omega) (by omega)
  refine jT_xaload_n (v := (6, 0)) (pcN := 2336) jI_379_2335 rfl rfl rfl ?_
  refine jT_xiload (v := (0, 0)) (pcN := 2338) jI_379_2336 rfl rfl rfl ?_
  refine jT_xiconst (k := 3) (pcN := 2339) jI_379_2338 rfl ?_
  refine jT_xiadd (x := 0) (y := 3) (z := 3) (pcN := 2340) jI_379_2339 rfl (by decide) rfl ?_
  refine jT_adv 1 (pcN := 2341) (LN := [(5, (0, 0)), (4, (4, 3)), (3, (4, 2)), (2, (4, 1)), (1, (4, 0)), (0, (6, 0))]) (stN := [(0, x3), (0, x2), (0, 3), (4, 0)]) (hsN := jpA_1933) (c1 := 0) (s1 := 0) (c2 := 1) (s2 := 6) (by exact rfl) ?_ (by omega) (by omega)
  refine jT_eq (LN := [(5, (0, 0)), (4, (4, 3)), (3, (4, 2)), (2, (4, 1)), (1, (4, 0)), (0, (6, 0))]) (stN := [(0, 0), (0, x2), (0, 3), (4, 0)]) (hsN := [jzA_265, jzA_266, jgh, jgh, jgh, jgh, jgh, jgh, jgh, jgh, jgh, jgh, jgh, jgh, jzA_322, (100, [], jS0), jgh, jgh, jgh, jgh, jgh, jgh, jgh, jgh, jgh, jgh, jgh, jgh, jgh, jgh, jgh, (117, [], [35, 36, 37, 38]), jgh, jgh, jgh, jgh, jgh, jgh, (7, [(4, 39), (4, (-1)), (4, (-1))], []), (114, [], [40]), jgh]) (rfl) (by simp only [List.cons.injEq, Prod.mk.injEq, and_true, true_and] <;> ((try unfold jw); (try unfold jwl); omega)) (rfl) ?_
  refine jT_xifT (pcN := 2348) jI_379_2341 rfl (by decide +kernel) rfl ?_
  refine jT_xiconst (k := 0) (pcN := 2349) jI_379_2348 rfl ?_
  refine jT_xaload_n (v := (4, 2)) (pcN := 2350) jI_379_2349 rfl rfl rfl ?_
  refine jT_fR [0, 2, 4, 5, 6, 7, 8, 9, 10, 11, 12, 13, 14, 30, 31, 32, 33, 34, 35, 36, 37, 38, 39, 40] 41 (y := 354) (pcN := 2353) (dC := 2) (bc1 := 1) (bc2 := 6) (c1 := 0) (c2 := 0) (as := [(4, 0), (0, 3), (0, x2), (0, 0), (4, 2)]) (asC := [(4, 0), (0, 3), (0, x2), (0, 0), (4, 1)]) (LN := [(5, (0, 0)), (4, (4, 3)), (3, (4, 2)), (2, (4, 1)), (1, (4, 0)), (0, (6, 0))]) (stN := []) (hsC := jpA_1872) (v := (0, 1)) (st2 := [(0, 1)]) (jA_354_999 (d := 0) (by omega)) (by rfl) (by rfl) (by decide +kernel) (by rfl) (by rfl) (by omega) (by omega) (by omega) (by omega) rfl ?_
  refine jT_xistore (v := (0, 1)) (LN := [(6, (0, 1)), (5, (0, 0)), (4, (4, 3)), (3, (4, 2)), (2, (4, 1)), (1, (4, 0)), (0, (6, 0))]) (pcN := 2355) jI_379_2353 rfl rfl rfl rfl ?_
  refine jT_xaload_n (v := (4, 1)) (pcN := 2356) jI_379_2355 rfl rfl rfl ?_
  refine jT_xaload_n (v := (6, 0)) (pcN := 2357) jI_379_2356 rfl rfl rfl ?_
  refine jT_xiload (v := (0, 0)) (pcN := 2359) jI_379_2357 rfl rfl rfl ?_
  refine jT_xiconst (k := 1) (pcN := 2360) jI_379_2359 rfl ?_
  refine jT_xiadd (x := 0) (y := 1) (z := 1) (pcN := 2361) jI_379_2360 rfl (by decide) rfl ?_
  refine jT_adv 1 (pcN := 2362) (LN := [(6, (0, 1)), (5, (0, 0)), (4, (4, 3)), (3, (4, 2)), (2, (4, 1)), (1, (4, 0)), (0, (6, 0))]) (stN := [(0, x1), (4, 1)]) (hsN := jpA_1933) (c1 := 0) (s1 := 0) (c2 := 0) (s2 := 0) (by exact rfl) ?_ (by omega) (by omega)
  refine jT_eq (LN := [(6, (0, 1)), (5, (0, 0)), (4, (4, 3)), (3, (4, 2)), (2, (4, 1)), (1, (4, 0)), (0, (6, 0))]) (stN := [(0, 3), (4, 1)]) (hsN := [jzA_265, jzA_266, jgh, jgh, jgh, jgh, jgh, jgh, jgh, jgh, jgh, jgh, jgh, jgh, jzA_322, (100, [], jS0), jgh, jgh, jgh, jgh, jgh, jgh, jgh, jgh, jgh, jgh, jgh, jgh, jgh, jgh, jgh, (117, [], [35, 36, 37, 38]), jgh, jgh, jgh, jgh, jgh, jgh, (7, [(4, 39), (4, (-1)), (4, (-1))], []), (114, [], [40]), jgh]) (rfl) (by simp only [List.cons.injEq, Prod.mk.injEq, and_true, true_and] <;> ((try unfold jw); (try unfold jwl); omega)) (rfl) ?_
  refine jT_xaload_n (v := (6, 0)) (pcN := 2363) jI_379_2362 rfl rfl rfl ?_
  refine jT_xiload (v := (0, 0)) (pcN := 2365) jI_379_2363 rfl rfl rfl ?_
  refine jT_xiconst (k := 2) (pcN := 2366) jI_379_2365 rfl ?_
  refine jT_xiadd (x := 0) (y := 2) (z := 2) (pcN := 2367) jI_379_2366 rfl (by decide) rfl ?_
  refine jT_adv 1 (pcN := 2368) (LN := [(6, (0, 1)), (5, (0, 0)), (4, (4, 3)), (3, (4, 2)), (2, (4, 1)), (1, (4, 0)), (0, (6, 0))]) (stN := [(0, x2), (0, 3), (4, 1)]) (hsN := jpA_1933) (c1 := 0) (s1 := 0) (c2 := 0) (s2 := 0) (by exact rfl) ?_ (by omega) (by omega)
  refine jT_xaload_n (v := (6, 0)) (pcN := 2369) jI_379_2368 rfl rfl rfl ?_
  refine jT_xiload (v := (0, 0)) (pcN := 2371) jI_379_2369 rfl rfl rfl ?_
  refine jT_xiconst (k := 3) (pcN := 2372) jI_379_2371 rfl ?_
  refine jT_xiadd (x := 0) (y := 3) (z := 3) (pcN := 2373) jI_379_2372 rfl (by decide) rfl ?_
  refine jT_adv 1 (pcN := 2374) (LN := [(6, (0, 1)), (5, (0, 0)), (4, (4, 3)), (3, (4, 2)), (2, (4, 1)), (1, (4, 0)), (0, (6, 0))]) (stN := [(0, x3), (0, x2), (0, 3), (4, 1)]) (hsN := jpA_1933) (c1 := 0) (s1 := 0) (c2 := 0) (s2 := 0) (by exact rfl) ?_ (by omega) (by omega)
  refine jT_eq (LN := [(6, (0, 1)), (5, (0, 0)), (4, (4, 3)), (3, (4, 2)), (2, (4, 1)), (1, (4, 0)), (0, (6, 0))]) (stN := [(0, 0), (0, x2), (0, 3), (4, 1)]) (hsN := [jzA_265, jzA_266, jgh, jgh, jgh, jgh, jgh, jgh, jgh, jgh, jgh, jgh, jgh, jgh, jzA_322, (100, [], jS0), jgh, jgh, jgh, jgh, jgh, jgh, jgh, jgh, jgh, jgh, jgh, jgh, jgh, jgh, jgh, (117, [], [35, 36, 37, 38]), jgh, jgh, jgh, jgh, jgh, jgh, (7, [(4, 39), (4, (-1)), (4, (-1))], []), (114, [], [40]), jgh]) (rfl) (by simp only [List.cons.injEq, Prod.mk.injEq, and_true, true_and] <;> ((try unfold jw); (try unfold jwl); omega)) (rfl) ?_
  refine jT_xifT (pcN := 2381) jI_379_2374 rfl (by decide +kernel) rfl ?_
  refine jT_xiconst (k := 0) (pcN := 2382) jI_379_2381 rfl ?_
  refine jT_fB [1, 15, 16, 17, 18, 19, 20, 21, 22, 23, 24, 25, 26, 27, 28, 29] 41 (y := 279) (pcN := 2385) (dC := 2) (bc1 := 0) (bc2 := 0) (c1 := 0) (c2 := 0) (as := [(4, 1), (0, 3), (0, x2), (0, 0)]) (asC := [(4, 0), (0, 3), (0, x2), (0, 0)]) (LN := [(6, (0, 1)), (5, (0, 0)), (4, (4, 3)), (3, (4, 2)), (2, (4, 1)), (1, (4, 0)), (0, (6, 0))]) (stN := []) (hsC := jpA_1519) (hsD := jpA_1820) (v := (0, 0)) (st2 := [(0, 0)]) (hs2 := jpA_1934) (jA_279_1000 (d := 0) (by omega)) (by rfl) (by rfl) (by decide +kernel) (by rfl) (by rfl) (by omega) (by omega) (by omega) (by omega) rfl (by decide +kernel) ?_
  refine jT_xistore (v := (0, 0)) (LN := [(7, (0, 0)), (6, (0, 1)), (5, (0, 0)), (4, (4, 3)), (3, (4, 2)), (2, (4, 1)), (1, (4, 0)), (0, (6, 0))]) (pcN := 2387) jI_379_2385 rfl rfl rfl rfl ?_
  refine jT_xaload_n (v := (4, 1)) (pcN := 2388) jI_379_2387 rfl rfl rfl ?_
  refine jT_fR [1, 15, 16, 17, 18, 19, 20, 21, 22, 23, 24, 25, 26, 27, 28, 29] 41 (y := 186) (pcN := 2391) (dC := 0) (bc1 := 0) (bc2 := 0) (c1 := 0) (c2 := 0) (as := [(4, 1)]) (asC := [(4, 0)]) (LN := [(7, (0, 0)), (6, (0, 1)), (5, (0, 0)), (4, (4, 3)), (3, (4, 2)), (2, (4, 1)), (1, (4, 0)), (0, (6, 0))]) (stN := []) (hsC := jpA_20) (v := (0, 1)) (st2 := [(0, 1)]) (jA_186_8 (d := 0)) (by rfl) (by rfl) (by decide +kernel) (by rfl) (by rfl) (by omega) (by omega) (by omega) (by omega) rfl ?_
  refine jT_xiload (v := (0, 1)) (pcN := 2393) jI_379_2391 rfl rfl rfl ?_
  refine jT_xicT (pcN := 2398) jI_379_2393 rfl (by decide +kernel) rfl ?_
  refine jT_xiload (v := (0, 1)) (pcN := 2400) jI_379_2398 rfl rfl rfl ?_
  refine jT_xifT (pcN := 2415) jI_379_2400 rfl (by decide +kernel) rfl ?_
  refine jT_xgoto (pcN := 3740) jI_379_2415 rfl ?_
  refine jT_xiinc (x := 0) (z := 5) (LN := [(5, (0, 5)), (7, (0, 0)), (6, (0, 1)), (4, (4, 3)), (3, (4, 2)), (2, (4, 1)), (1, (4, 0)), (0, (6, 0))]) (pcN := 3743) jI_379_3740 rfl rfl (by decide) rfl rfl ?_
  refine jT_xgoto (pcN := 28) jI_379_3743 rfl ?_
  refine jT_xiload (v := (0, 5)) (pcN := 30) jI_379_28 rfl rfl rfl ?_
  refine jT_xaload_n (v := (6, 0)) (pcN := 31) jI_379_30 rfl rfl rfl ?_
  refine jT_adv 1 (pcN := 32) (LN := [(5, (0, 5)), (7, (0, 0)), (6, (0, 1)), (4, (4, 3)), (3, (4, 2)), (2, (4, 1)), (1, (4, 0)), (0, (6, 0))]) (stN := [(0, 5), (0, 5)]) (hsN := jpA_1934) (c1 := 0) (s1 := 0) (c2 := 0) (s2 := 0) (by exact rfl) ?_ (by omega) (by omega)
  refine jT_xiconst (k := 5) (pcN := 33) jI_379_32 rfl ?_
  refine jT_xisub (x := 5) (y := 5) (z := 0) (pcN := 34) jI_379_33 rfl (by decide) rfl ?_
  refine jT_xicT (pcN := 3746) jI_379_34 rfl (by decide +kernel) rfl ?_
  refine jT_xiconst (k := 1) (pcN := 3747) jI_379_3746 rfl ?_
  exact jT_ret rfl (by decide) (by show 41 ≤ 41; decide) (by omega) (by omega) ⟨rfl, rfl⟩
set_option maxRecDepth 100000 in
theorem jL_30_27 {d : Nat} {x0 x1 x2 x3 x4 : Int} (h_x0 : (-2147483648) ≤ x0 ∧ x0 ≤ 2147483647) (h_x1 : 4 ≤ x1 ∧ x1 ≤ 2147483647) (h_x2 : (-2147483648) ≤ x2 ∧ x2 ≤ 2147483647) (h_x3 : 0 ≤ x3 ∧ x3 ≤ 0) (h_x4 : (-2147483648) ≤ x4 ∧ x4 ≤ 2147483647) : jT [x0, x1, x2, x3, x4] (d + 3) 379 30 2322 [(5, (0, 0)), (4, (4, 3)), (3, (4, 2)), (2, (4, 1)), (1, (4, 0)), (0, (6, 0))] [] jpA_267 1 6 (fun k v hsN => k = 0 ∧ v = (0, 1)) := by
  refine jT_xaload_n (v := (4, 0)) (pcN := 2323) jI_379_2322 rfl rfl rfl ?_
  refine jT_xaload_n (v := (6, 0)) (pcN := 2324) jI_379_2323 rfl rfl rfl ?_
  refine jT_xiload (v := (0, 0)) (pcN := 2326) jI_379_2324 rfl rfl rfl ?_
  refine jT_xiconst (k := 1) (pcN := 2327) jI_379_2326 rfl ?_
  refine jT_xiadd (x := 0) (y := 1) (z := 1) (pcN := 2328) jI_379_2327 rfl (by decide) rfl ?_
  refine jT_adv 1 (pcN := 2329) (LN := [(5, (0, 0)), (4, (4, 3)), (3, (4, 2)), (2, (4, 1)), (1, (4, 0)), (0, (6, 0))]) (stN := [(0, x1), (4, 0)]) (hsN := jpA_267) (c1 := 0) (s1 := 0) (c2 := 1) (s2 := 6) (by exact rfl) ?_ (by omega) (by omega)
  refine jT_xaload_n (v := (6, 0)) (pcN := 2330) jI_379_2329 rfl rfl rfl ?_
  refine jT_xiload (v := (0, 0)) (pcN := 2332) jI_379_2330 rfl rfl rfl ?_
  refine jT_xiconst (k := 2) (pcN := 2333) jI_379_2332 rfl ?_
  refine jT_xiadd (x := 0) (y := 2) (z := 2) (pcN := 2334) jI_379_2333 rfl (by decide) rfl ?_
  refine jT_adv 1 (pcN := 2335) (LN := [(5, (0, 0)), (4, (4, 3)), (3, (4, 2)), (2, (4, 1)), (1, (4, 0)), (0, (6, 0))]) (stN := [(0, x2), (0, x1), (4, 0)]) (hsN := jpA_267) (c1 := 0) (s1 := 0) (c2 := 1) (s2 := 6) (by exact rfl) ?_ (by omega) (by omega)
  refine jT_xaload_n (v := (6, 0)) (pcN := 2336) jI_379_2335 rfl rfl rfl ?_
  refine jT_xiload (v := (0, 0)) (pcN := 2338) jI_379_2336 rfl rfl rfl ?_
  refine jT_xiconst (k := 3) (pcN := 2339) jI_379_2338 rfl ?_
  refine jT_xiadd (x := 0) (y := 3) (z := 3) (pcN := 2340) jI_379_2339 rfl (by decide) rfl ?_
  refine jT_adv 1 (pcN := 2341) (LN := [(5, (0, 0)), (4, (4, 3)), (3, (4, 2)), (2, (4, 1)), (1, (4, 0)), (0, (6, 0))]) (stN := [(0, x3), (0, x2), (0, x1), (4, 0)]) (hsN := jpA_267) (c1 := 0) (s1 := 0) (c2 := 1) (s2 := 6) (by exact rfl) ?_ (by omega) (by omega)
  refine jT_eq (LN := [(5, (0, 0)), (4, (4, 3)), (3, (4, 2)), (2, (4, 1)), (1, (4, 0)), (0, (6, 0))]) (stN := [(0, 0), (0, x2), (0, x1), (4, 0)]) (hsN := [jzA_265, jzA_266, jgh, jgh, jgh, jgh, jgh, jgh, jgh, jgh, jgh, jgh, jgh, jgh, jgh, jgh, jgh, jgh, jgh, jgh, jgh, jgh, jgh, jgh, jgh, jgh, jgh, jgh, jgh, jgh]) (rfl) (by simp only [List.cons.injEq, Prod.mk.injEq, and_true, true_and] <;> ((try unfold jw); (try unfold jwl); omega)) (rfl) ?_
  refine jT_xifT (pcN := 2348) jI_379_2341 rfl (by decide +kernel) rfl ?_
  refine jT_xiconst (k := 0) (pcN := 2349) jI_379_2348 rfl ?_
  refine jT_xaload_n (v := (4, 2)) (pcN := 2350) jI_379_2349 rfl rfl rfl ?_
  refine jT_fR [0, 2, 4, 5, 6, 7, 8, 9, 10, 11, 12, 13, 14] 30 (y := 354) (pcN := 2353) (dC := 2) (bc1 := 1) (bc2 := 6) (c1 := 0) (c2 := 0) (as := [(4, 0), (0, x1), (0, x2), (0, 0), (4, 2)]) (asC := [(4, 0), (0, x1), (0, x2), (0, 0), (4, 1)]) (LN := [(5, (0, 0)), (4, (4, 3)), (3, (4, 2)), (2, (4, 1)), (1, (4, 0)), (0, (6, 0))]) (stN := []) (hsC := jpA_15) (v := (0, 1)) (st2 := [(0, 1)]) (jA_354_1002 (d := 0) (by omega) (by omega)) (by rfl) (by rfl) (by decide +kernel) (by rfl) (by rfl) (by omega) (by omega) (by omega) (by omega) rfl ?_
  refine jT_xistore (v := (0, 1)) (LN := [(6, (0, 1)), (5, (0, 0)), (4, (4, 3)), (3, (4, 2)), (2, (4, 1)), (1, (4, 0)), (0, (6, 0))]) (pcN := 2355) jI_379_2353 rfl rfl rfl rfl ?_
  refine jT_xaload_n (v := (4, 1)) (pcN := 2356) jI_379_2355 rfl rfl rfl ?_
  refine jT_xaload_n (v := (6, 0)) (pcN := 2357) jI_379_2356 rfl rfl rfl ?_
  refine jT_xiload (v := (0, 0)) (pcN := 2359) jI_379_2357 rfl rfl rfl ?_
  refine jT_xiconst (k := 1) (pcN := 2360) jI_379_2359 rfl ?_
  refine jT_xiadd (x := 0) (y := 1) (z := 1) (pcN := 2361) jI_379_2360 rfl (by decide) rfl ?_
  refine jT_adv 1 (pcN := 2362) (LN := [(6, (0, 1)), (5, (0, 0)), (4, (4, 3)), (3, (4, 2)), (2, (4, 1)), (1, (4, 0)), (0, (6, 0))]) (stN := [(0, x1), (4, 1)]) (hsN := jpA_267) (c1 := 0) (s1 := 0) (c2 := 0) (s2 := 0) (by exact rfl) ?_ (by omega) (by omega)
  refine jT_xaload_n (v := (6, 0)) (pcN := 2363) jI_379_2362 rfl rfl rfl ?_
  refine jT_xiload (v := (0, 0)) (pcN := 2365) jI_379_2363 rfl rfl rfl ?_
  refine jT_xiconst (k := 2) (pcN := 2366) jI_379_2365 rfl ?_
  refine jT_xiadd (x := 0) (y := 2) (z := 2) (pcN := 2367) jI_379_2366 rfl (by decide) rfl ?_
  refine jT_adv 1 (pcN := 2368) (LN := [(6, (0, 1)), (5, (0, 0)), (4, (4, 3)), (3, (4, 2)), (2, (4, 1)), (1, (4, 0)), (0, (6, 0))]) (stN := [(0, x2), (0, x1), (4, 1)]) (hsN := jpA_267) (c1 := 0) (s1 := 0) (c2 := 0) (s2 := 0) (by exact rfl) ?_ (by omega) (by omega)
  refine jT_xaload_n (v := (6, 0)) (pcN := 2369) jI_379_2368 rfl rfl rfl ?_
  refine jT_xiload (v := (0, 0)) (pcN := 2371) jI_379_2369 rfl rfl rfl ?_
  refine jT_xiconst (k := 3) (pcN := 2372) jI_379_2371 rfl ?_
  refine jT_xiadd (x := 0) (y := 3) (z := 3) (pcN := 2373) jI_379_2372 rfl (by decide) rfl ?_
  refine jT_adv 1 (pcN := 2374) (LN := [(6, (0, 1)), (5, (0, 0)), (4, (4, 3)), (3, (4, 2)), (2, (4, 1)), (1, (4, 0)), (0, (6, 0))]) (stN := [(0, x3), (0, x2), (0, x1), (4, 1)]) (hsN := jpA_267) (c1 := 0) (s1 := 0) (c2 := 0) (s2 := 0) (by exact rfl) ?_ (by omega) (by omega)
  refine jT_eq (LN := [(6, (0, 1)), (5, (0, 0)), (4, (4, 3)), (3, (4, 2)), (2, (4, 1)), (1, (4, 0)), (0, (6, 0))]) (stN := [(0, 0), (0, x2), (0, x1), (4, 1)]) (hsN := [jzA_265, jzA_266, jgh, jgh, jgh, jgh, jgh, jgh, jgh, jgh, jgh, jgh, jgh, jgh, jgh, jgh, jgh, jgh, jgh, jgh, jgh, jgh, jgh, jgh, jgh, jgh, jgh, jgh, jgh, jgh]) (rfl) (by simp only [List.cons.injEq, Prod.mk.injEq, and_true, true_and] <;> ((try unfold jw); (try unfold jwl); omega)) (rfl) ?_
  refine jT_xifT (pcN := 2381) jI_379_2374 rfl (by decide +kernel) rfl ?_
  refine jT_xiconst (k := 0) (pcN := 2382) jI_379_2381 rfl ?_
  refine jT_fB [1, 15, 16, 17, 18, 19, 20, 21, 22, 23, 24, 25, 26, 27, 28, 29] 30 (y := 279) (pcN := 2385) (dC := 2) (bc1 := 0) (bc2 := 0) (c1 := 0) (c2 := 0) (as := [(4, 1), (0, x1), (0, x2), (0, 0)]) (asC := [(4, 0), (0, x1), (0, x2), (0, 0)]) (LN := [(6, (0, 1)), (5, (0, 0)), (4, (4, 3)), (3, (4, 2)), (2, (4, 1)), (1, (4, 0)), (0, (6, 0))]) (stN := []) (hsC := jpA_22) (hsD := jpA_20) (v := (0, 0)) (st2 := [(0, 0)]) (hs2 := jpA_306) (jA_279_1003 (d := 0) (by omega) (by omega)) (by rfl) (by rfl) (by decide +kernel) (by rfl) (by rfl) (by omega) (by omega) (by omega) (by omega) rfl (by decide +kernel) ?_
  refine jT_xistore (v := (0, 0)) (LN := [(7, (0, 0)), (6, (0, 1)), (5, (0, 0)), (4, (4, 3)), (3, (4, 2)), (2, (4, 1)), (1, (4, 0)), (0, (6, 0))]) (pcN := 2387) jI_379_2385 rfl rfl rfl rfl ?_
  refine jT_xaload_n (v := (4, 1)) (pcN := 2388) jI_379_2387 rfl rfl rfl ?_
  refine jT_fR [1, 15, 16, 17, 18, 19, 20, 21, 22, 23, 24, 25, 26, 27, 28, 29] 30 (y := 186) (pcN := 2391) (dC := 0) (bc1 := 0) (bc2 := 0) (c1 := 0) (c2 := 0) (as := [(4, 1)]) (asC := [(4, 0)]) (LN := [(7, (0, 0)), (6, (0, 1)), (5, (0, 0)), (4, (4, 3)), (3, (4, 2)), (2, (4, 1)), (1, (4, 0)), (0, (6, 0))]) (stN := []) (hsC := jpA_20) (v := (0, 1)) (st2 := [(0, 1)]) (jA_186_8 (d := 0)) (by rfl) (by rfl) (by decide +kernel) (by rfl) (by rfl) (by omega) (by omega) (by omega) (by omega) rfl ?_
  refine jT_xiload (v := (0, 1)) (pcN := 2393) jI_379_2391 rfl rfl rfl ?_
  refine jT_xicT (pcN := 2398) jI_379_2393 rfl (by decide +kernel) rfl ?_
  refine jT_xiload (v := (0, 1)) (pcN := 2400) jI_379_2398 rfl rfl rfl ?_
  refine jT_xifT (pcN := 2415) jI_379_2400 rfl (by decide +kernel) rfl ?_
  refine jT_xgoto (pcN := 3740) jI_379_2415 rfl ?_
  refine jT_xiinc (x := 0) (z := 5) (LN := [(5, (0, 5)), (7, (0, 0)), (6, (0, 1)), (4, (4, 3)), (3, (4, 2)), (2, (4, 1)), (1, (4, 0)), (0, (6, 0))]) (pcN := 3743) jI_379_3740 rfl rfl (by decide) rfl rfl ?_
  refine jT_xgoto (pcN := 28) jI_379_3743 rfl ?_
  refine jT_xiload (v := (0, 5)) (pcN := 30) jI_379_28 rfl rfl rfl ?_
  refine jT_xaload_n (v := (6, 0)) (pcN := 31) jI_379_30 rfl rfl rfl ?_
  refine jT_adv 1 (pcN := 32) (LN := [(5, (0, 5)), (7, (0, 0)), (6, (0, 1)), (4, (4, 3)), (3, (4, 2)), (2, (4, 1)), (1, (4, 0)), (0, (6, 0))]) (stN := [(0, 5), (0, 5)]) (hsN := jpA_306) (c1 := 0) (s1 := 0) (c2 := 0) (s2 := 0) (by exact rfl) ?_ (by omega) (by omega)
  refine jT_xiconst (k := 5) (pcN := 33) jI_379_32 rfl ?_
  refine jT_xisub (x := 5) (y := 5) (z := 0) (pcN := 34) jI_379_33 rfl (by decide) rfl ?_
  refine jT_xicT (pcN := 3746) jI_379_34 rfl (by decide +kernel) rfl ?_
  refine jT_xiconst (k := 1) (pcN := 3747) jI_379_3746 rfl ?_
  exact jT_ret rfl (by decide) (by show 30 ≤ 30; decide) (by omega) (by omega) ⟨rfl, rfl⟩
set_option maxRecDepth 100000 in
theorem jL_30_28 {d : Nat} {x0 x1 x2 x3 x4 : Int} (h_x0 : (-2147483648) ≤ x0 ∧ x0 ≤ 2147483647) (h_x1 : (-2147483648) ≤ x1 ∧ x1 ≤ (-1)) (h_x2 : (-2147483648) ≤ x2 ∧ x2 ≤ 2147483647) (h_x3 : 1 ≤ x3 ∧ x3 ≤ 2147483647) (h_x4 : (-2147483648) ≤ x4 ∧ x4 ≤ 2147483647) : jT [x0, x1, x2, x3, x4] (d + 3) 379 30 2322 [(5, (0, 0)), (4, (4, 3)), (3, (4, 2)), (2, (4, 1)), (1, (4, 0)), (0, (6, 0))] [] jpA_267 1 6 (fun k v hsN => k = 0 ∧ v = (0, 1)) := by
  refine jT_xaload_n (v := (4, 0)) (pcN := 2323) jI_379_2322 rfl rfl rfl ?_
  refine jT_xaload_n (v := (6, 0)) (pcN := 2324) jI_379_2323 rfl rfl rfl ?_
  refine jT_xiload (v := (0, 0)) (pcN := 2326) jI_379_2324 rfl rfl rfl ?_
  refine jT_xiconst (k := 1) (pcN := 2327) jI_379_2326 rfl ?_
  refine jT_xiadd (x := 0) (y := 1) (z := 1) (pcN := 2328) jI_379_2327 rfl (by decide) rfl ?_
  refine jT_adv 1 (pcN := 2329) (LN := [(5, (0, 0)), (4, (4, 3)), (3, (4, 2)), (2, (4, 1)), (1, (4, 0)), (0, (6, 0))]) (stN := [(0, x1), (4, 0)]) (hsN := jpA_267) (c1 := 0) (s1 := 0) (c2 := 1) (s2 := 6) (by exact rfl) ?_ (by omega) (by omega)
  refine jT_xaload_n (v := (6, 0)) (pcN := 2330) jI_379_2329 rfl rfl rfl ?_
  refine jT_xiload (v := (0, 0)) (pcN := 2332) jI_379_2330 rfl rfl rfl ?_
  refine jT_xiconst (k := 2) (pcN := 2333) jI_379_2332 rfl ?_
  refine jT_xiadd (x := 0) (y := 2) (z := 2) (pcN := 2334) jI_379_2333 rfl (by decide) rfl ?_
  refine jT_adv 1 (pcN := 2335) (LN := [(5, (0, 0)), (4, (4, 3)), (3, (4, 2)), (2, (4, 1)), (1, (4, 0)), (0, (6, 0))]) (stN := [(0, x2), (0, x1), (4, 0)]) (hsN := jpA_267) (c1 := 0) (s1 := 0) (c2 := 1) (s2 := 6) (by exact rfl) ?_ (by omega) (by omega)
  refine jT_xaload_n (v := (6, 0)) (pcN := 2336) jI_379_2335 rfl rfl rfl ?_
  refine jT_xiload (v := (0, 0)) (pcN := 2338) jI_379_2336 rfl rfl rfl ?_
  refine jT_xiconst (k := 3) (pcN := 2339) jI_379_2338 rfl ?_
  refine jT_xiadd (x := 0) (y := 3) (z := 3) (pcN := 2340) jI_379_2339 rfl (by decide) rfl ?_
  refine jT_adv 1 (pcN := 2341) (LN := [(5, (0, 0)), (4, (4, 3)), (3, (4, 2)), (2, (4, 1)), (1, (4, 0)), (0, (6, 0))]) (stN := [(0, x3), (0, x2), (0, x1), (4, 0)]) (hsN := jpA_267) (c1 := 0) (s1 := 0) (c2 := 1) (s2 := 6) (by exact rfl) ?_ (by omega) (by omega)
  refine jT_ifF (a := x3) (t := 2348) (by rfl) (by rfl) (by rfl) (jw_idd (by omega) (by omega)) (by simp only [jcP] <;> omega) ?_
  refine jT_xiconst (k := 1) (pcN := 2345) jI_379_2344 rfl ?_
  refine jT_xgoto (pcN := 2349) jI_379_2345 rfl ?_
  refine jT_xaload_n (v := (4, 2)) (pcN := 2350) jI_379_2349 rfl rfl rfl ?_
  refine jT_fR [0, 2, 4, 5, 6, 7, 8, 9, 10, 11, 12, 13, 14] 30 (y := 354) (pcN := 2353) (dC := 2) (bc1 := 1) (bc2 := 6) (c1 := 0) (c2 := 0) (as := [(4, 0), (0, x1), (0, x2), (0, 1), (4, 2)]) (asC := [(4, 0), (0, x1), (0, x2), (0, 1), (4, 1)]) (LN := [(5, (0, 0)), (4, (4, 3)), (3, (4, 2)), (2, (4, 1)), (1, (4, 0)), (0, (6, 0))]) (stN := []) (hsC := jpA_15) (v := (0, 1)) (st2 := [(0, 1)]) (jA_354_888 (d := 0) (by omega) (by omega)) (by rfl) (by rfl) (by decide +kernel) (by rfl) (by rfl) (by omega) (by omega) (by omega) (by omega) rfl ?_
  refine jT_xistore (v := (0, 1)) (LN := [(6, (0, 1)), (5, (0, 0)), (4, (4, 3)), (3, (4, 2)), (2, (4, 1)), (1, (4, 0)), (0, (6, 0))]) (pcN := 2355) jI_379_2353 rfl rfl rfl rfl ?_
  refine jT_xaload_n (v := (4, 1)) (pcN := 2356) jI_379_2355 rfl rfl rfl ?_
  refine jT_xaload_n (v := (6, 0)) (pcN := 2357) jI_379_2356 rfl rfl rfl ?_
  refine jT_xiload (v := (0, 0)) (pcN := 2359) jI_379_2357 rfl rfl rfl ?_
  refine jT_xiconst (k := 1) (pcN := 2360) jI_379_2359 rfl ?_
  refine jT_xiadd (x := 0) (y := 1) (z := 1) (pcN := 2361) jI_379_2360 rfl (by decide) rfl ?_
  refine jT_adv 1 (pcN := 2362) (LN := [(6, (0, 1)), (5, (0, 0)), (4, (4, 3)), (3, (4, 2)), (2, (4, 1)), (1, (4, 0)), (0, (6, 0))]) (stN := [(0, x1), (4, 1)]) (hsN := jpA_267) (c1 := 0) (s1 := 0) (c2 := 0) (s2 := 0) (by exact rfl) ?_ (by omega) (by omega)
  refine jT_xaload_n (v := (6, 0)) (pcN := 2363) jI_379_2362 rfl rfl rfl ?_
  refine jT_xiload (v := (0, 0)) (pcN := 2365) jI_379_2363 rfl rfl rfl ?_
  refine jT_xiconst (k := 2) (pcN := 2366) jI_379_2365 rfl ?_
  refine jT_xiadd (x := 0) (y := 2) (z := 2) (pcN := 2367) jI_379_2366 rfl (by decide) rfl ?_
  refine jT_adv 1 (pcN := 2368) (LN := [(6, (0, 1)), (5, (0, 0)), (4, (4, 3)), (3, (4, 2)), (2, (4, 1)), (1, (4, 0)), (0, (6, 0))]) (stN := [(0, x2), (0, x1), (4, 1)]) (hsN := jpA_267) (c1 := 0) (s1 := 0) (c2 := 0) (s2 := 0) (by exact rfl) ?_ (by omega) (by omega)
  refine jT_xaload_n (v := (6, 0)) (pcN := 2369) jI_379_2368 rfl rfl rfl ?_
  refine jT_xiload (v := (0, 0)) (pcN := 2371) jI_379_2369 rfl rfl rfl ?_
  refine jT_xiconst (k := 3) (pcN := 2372) jI_379_2371 rfl ?_
  refine jT_xiadd (x := 0) (y := 3) (z := 3) (pcN := 2373) jI_379_2372 rfl (by decide) rfl ?_
  refine jT_adv 1 (pcN := 2374) (LN := [(6, (0, 1)), (5, (0, 0)), (4, (4, 3)), (3, (4, 2)), (2, (4, 1)), (1, (4, 0)), (0, (6, 0))]) (stN := [(0, x3), (0, x2), (0, x1), (4, 1)]) (hsN := jpA_267) (c1 := 0) (s1 := 0) (c2 := 0) (s2 := 0) (by exact rfl) ?_ (by omega) (by omega)
  refine jT_ifF (a := x3) (t := 2381) (by rfl) (by rfl) (by rfl) (jw_idd (by omega) (by omega)) (by simp only [jcP] <;> omega) ?_
  refine jT_xiconst (k := 1) (pcN := 2378) jI_379_2377 rfl ?_
  refine jT_xgoto (pcN := 2382) jI_379_2378 rfl ?_
  refine jT_fB [1, 15, 16, 17, 18, 19, 20, 21, 22, 23, 24, 25, 26, 27, 28, 29] 30 (y := 279) (pcN := 2385) (dC := 2) (bc1 := 0) (bc2 := 0) (c1 := 0) (c2 := 0) (as := [(4, 1), (0, x1), (0, x2), (0, 1)]) (asC := [(4, 0), (0, x1), (0, x2), (0, 1)]) (LN := [(6, (0, 1)), (5, (0, 0)), (4, (4, 3)), (3, (4, 2)), (2, (4, 1)), (1, (4, 0)), (0, (6, 0))]) (stN := []) (hsC := jpA_22) (hsD := jpA_20) (v := (0, 0)) (st2 := [(0, 0)]) (hs2 := jpA_306) (jA_279_889 (d := 0) (by omega) (by omega)) (by rfl) (by rfl) (by decide +kernel) (by rfl) (by rfl) (by omega) (by omega) (by omega) (by omega) rfl (by decide +kernel) ?_
  refine jT_xistore (v := (0, 0)) (LN := [(7, (0, 0)), (6, (0, 1)), (5, (0, 0)), (4, (4, 3)), (3, (4, 2)), (2, (4, 1)), (1, (4, 0)), (0, (6, 0))]) (pcN := 2387) jI_379_2385 rfl rfl rfl rfl ?_
  refine jT_xaload_n (v := (4, 1)) (pcN := 2388) jI_379_2387 rfl rfl rfl ?_
  refine jT_fR [1, 15, 16, 17, 18, 19, 20, 21, 22, 23, 24, 25, 26, 27, 28, 29] 30 (y := 186) (pcN := 2391) (dC := 0) (bc1 := 0) (bc2 := 0) (c1 := 0) (c2 := 0) (as := [(4, 1)]) (asC := [(4, 0)]) (LN := [(7, (0, 0)), (6, (0, 1)), (5, (0, 0)), (4, (4, 3)), (3, (4, 2)), (2, (4, 1)), (1, (4, 0)), (0, (6, 0))]) (stN := []) (hsC := jpA_20) (v := (0, 1)) (st2 := [(0, 1)]) (jA_186_8 (d := 0)) (by rfl) (by rfl) (by decide +kernel) (by rfl) (by rfl) (by omega) (by omega) (by omega) (by omega) rfl ?_
  refine jT_xiload (v := (0, 1)) (pcN := 2393) jI_379_2391 rfl rfl rfl ?_
  refine jT_xicT (pcN := 2398) jI_379_2393 rfl (by decide +kernel) rfl ?_
  refine jT_xiload (v := (0, 1)) (pcN := 2400) jI_379_2398 rfl rfl rfl ?_
  refine jT_xifT (pcN := 2415) jI_379_2400 rfl (by decide +kernel) rfl ?_
  refine jT_xgoto (pcN := 3740) jI_379_2415 rfl ?_
  refine jT_xiinc (x := 0) (z := 5) (LN := [(5, (0, 5)), (7, (0, 0)), (6, (0, 1)), (4, (4, 3)), (3, (4, 2)), (2, (4, 1)), (1, (4, 0)), (0, (6, 0))]) (pcN := 3743) jI_379_3740 rfl rfl (by decide) rfl rfl ?_
  refine jT_xgoto (pcN := 28) jI_379_3743 rfl ?_
  refine jT_xiload (v := (0, 5)) (pcN := 30) jI_379_28 rfl rfl rfl ?_
  refine jT_xaload_n (v := (6, 0)) (pcN := 31) jI_379_30 rfl rfl rfl ?_
  refine jT_adv 1 (pcN := 32) (LN := [(5, (0, 5)), (7, (0, 0)), (6, (0, 1)), (4, (4, 3)), (3, (4, 2)), (2, (4, 1)), (1, (4, 0)), (0, (6, 0))]) (stN := [(0, 5), (0, 5)]) (hsN := jpA_306) (c1 := 0) (s1 := 0) (c2 := 0) (s2 := 0) (by exact rfl) ?_ (by omega) (by omega)
  refine jT_xiconst (k := 5) (pcN := 33) jI_379_32 rfl ?_
  refine jT_xisub (x := 5) (y := 5) (z := 0) (pcN := 34) jI_379_33 rfl (by decide) rfl ?_
  refine jT_xicT (pcN := 3746) jI_379_34 rfl (by decide +kernel) rfl ?_
  refine jT_xiconst (k := 1) (pcN := 3747) jI_379_3746 rfl ?_
  exact jT_ret rfl (by decide) (by show 30 ≤ 30; decide) (by omega) (by omega) ⟨rfl, rfl⟩
set_option maxRecDepth 100000 in
theorem jL_30_29 {d : Nat} {x0 x1 x2 x3 x4 : Int} (h_x0 : (-2147483648) ≤ x0 ∧ x0 ≤ 2147483647) (h_x1 : 0 ≤ x1 ∧ x1 ≤ 0) (h_x2 : (-2147483648) ≤ x2 ∧ x2 ≤ (-1)) (h_x3 : 1 ≤ x3 ∧ x3 ≤ 2147483647) (h_x4 : (-2147483648) ≤ x4 ∧ x4 ≤ 2147483647) : jT [x0, x1, x2, x3, x4] (d + 3) 379 41 2322 [(5, (0, 0)), (4, (4, 3)), (3, (4, 2)), (2, (4, 1)), (1, (4, 0)), (0, (6, 0))] [] jpA_1911 1 6 (fun k v hsN => k = 0 ∧ v = (0, 1)) := by
  refine jT_xaload_n (v := (4, 0)) (pcN := 2323) jI_379_2322 rfl rfl rfl ?_
  refine jT_xaload_n (v := (6, 0)) (pcN := 2324) jI_379_2323 rfl rfl rfl ?_
  refine jT_xiload (v := (0, 0)) (pcN := 2326) jI_379_2324 rfl rfl rfl ?_
  refine jT_xiconst (k := 1) (pcN := 2327) jI_379_2326 rfl ?_
  refine jT_xiadd (x := 0) (y := 1) (z := 1) (pcN := 2328) jI_379_2327 rfl (by decide) rfl ?_
  refine jT_adv 1 (pcN := 2329) (LN := [(5, (0, 0)), (4, (4, 3)), (3, (4, 2)), (2, (4, 1)), (1, (4, 0)), (0, (6, 0))]) (stN := [(0, x1), (4, 0)]) (hsN := jpA_1911) (c1 := 0) (s1 := 0) (c2 := 1) (s2 := 6) (by exact rfl) ?_ (by omega) (by omega)
  refine jT_eq (LN := [(5, (0, 0)), (4, (4, 3)), (3, (4, 2)), (2, (4, 1)), (1, (4, 0)), (0, (6, 0))]) (stN := [(0, 0), (4, 0)]) (hsN := [jzA_265, jzA_266, jgh, jgh, jgh, jgh, jgh, jgh, jgh, jgh, jgh, jgh, jgh, jgh, jzA_322, (100, [], jS0), jgh, jgh, jgh, jgh, jgh, jgh, jgh, jgh, jgh, jgh, jgh, jgh, jgh, jgh, jgh, (117, [], [35, 36, 37, 38]), jgh, jgh, jgh, (7, [(4, 39), (4, (-1)), (4, (-1))], []), jgh, jgh, jgh, (114, [], [40]), jgh]) (rfl) (by simp only [List.cons.injEq, Prod.mk.injEq, and_true, true_and] <;> ((try unfold jw); (try unfold jwl); omega)) (rfl) ?_
  refine jT_xaload_n (v := (6, 0)) (pcN := 2330) jI_379_2329 rfl rfl rfl ?_
  refine jT_xiload (v := (0, 0)) (pcN := 2332) jI_379_2330 rfl rfl rfl ?_
  refine jT_xiconst (k := 2) (pcN := 2333) jI_379_2332 rfl ?_
  refine jT_xiadd (x := 0) (y := 2) (z := 2) (pcN := 2334) jI_379_2333 rfl (by decide) rfl ?_
  refine jT_adv 1 (pcN := 2335) (LN := [(5, (0, 0)), (4, (4, 3)), (3, (4, 2)), (2, (4, 1)), (1, (4, 0)), (0, (6, 0))]) (stN := [(0, x2), (0, 0), (4, 0)]) (hsN := jpA_1911) (c1 := 0) (s1 := 0) (c2 := 1) (s2 := 6) (by exact rfl) ?_ (by omega) (by omega)
  refine jT_xaload_n (v := (6, 0)) (pcN := 2336) jI_379_2335 rfl rfl rfl ?_
  refine jT_xiload (v := (0, 0)) (pcN := 2338) jI_379_2336 rfl rfl rfl ?_
  refine jT_xiconst (k := 3) (pcN := 2339) jI_379_2338 rfl ?_
  refine jT_xiadd (x := 0) (y := 3) (z := 3) (pcN := 2340) jI_379_2339 rfl (by decide) rfl ?_
  refine jT_adv 1 (pcN := 2341) (LN := [(5, (0, 0)), (4, (4, 3)), (3, (4, 2)), (2, (4, 1)), (1, (4, 0)), (0, (6, 0))]) (stN := [(0, x3), (0, x2), (0, 0), (4, 0)]) (hsN := jpA_1911) (c1 := 0) (s1 := 0) (c2 := 1) (s2 := 6) (by exact rfl) ?_ (by omega) (by omega)
  refine jT_ifF (a := x3) (t := 2348) (by rfl) (by rfl) (by rfl) (jw_idd (by omega) (by omega)) (by simp only [jcP] <;> omega) ?_
  refine jT_xiconst (k := 1) (pcN := 2345) jI_379_2344 rfl ?_
  refine jT_xgoto (pcN := 2349) jI_379_2345 rfl ?_
  refine jT_xaload_n (v := (4, 2)) (pcN := 2350) jI_379_2349 rfl rfl rfl ?_
  refine jT_fR [0, 2, 4, 5, 6, 7, 8, 9, 10, 11, 12, 13, 14, 30, 31, 32, 33, 34, 35, 36, 37, 38, 39, 40] 41 (y := 354) (pcN := 2353) (dC := 2) (bc1 := 1) (bc2 := 6) (c1 := 0) (c2 := 0) (as := [(4, 0), (0, 0), (0, x2), (0, 1), (4, 2)]) (asC := [(4, 0), (0, 0), (0, x2), (0, 1), (4, 1)]) (LN := [(5, (0, 0)), (4, (4, 3)), (3, (4, 2)), (2, (4, 1)), (1, (4, 0)), (0, (6, 0))]) (stN := []) (hsC := jpA_1806) (v := (0, 1)) (st2 := [(0, 1)]) (jA_354_891 (d := 0) (by omega)) (by rfl) (by rfl) (by decide +kernel) (by rfl) (by rfl) (by omega) (by omega) (by omega) (by omega) rfl ?_
  refine jT_xistore (v := (0, 1)) (LN := [(6, (0, 1)), (5, (0, 0)), (4, (4, 3)), (3, (4, 2)), (2, (4, 1)), (1, (4, 0)), (0, (6, 0))]) (pcN := 2355) jI_379_2353 rfl rfl rfl rfl ?_
  refine jT_xaload_n (v := (4, 1)) (pcN := 2356) jI_379_2355 rfl rfl rfl ?_
  refine jT_xaload_n (v := (6, 0)) (pcN := 2357) jI_379_2356 rfl rfl rfl ?_
  refine jT_xiload (v := (0, 0)) (pcN := 2359) jI_379_2357 rfl rfl rfl ?_
  refine jT_xiconst (k := 1) (pcN := 2360) jI_379_2359 rfl ?_
  refine jT_xiadd (x := 0) (y := 1) (z := 1) (pcN := 2361) jI_379_2360 rfl (by decide) rfl ?_
  refine jT_adv 1 (pcN := 2362) (LN := [(6, (0, 1)), (5, (0, 0)), (4, (4, 3)), (3, (4, 2)), (2, (4, 1)), (1, (4, 0)), (0, (6, 0))]) (stN := [(0, x1), (4, 1)]) (hsN := jpA_1911) (c1 := 0) (s1 := 0) (c2 := 0) (s2 := 0) (by exact rfl) ?_ (by omega) (by omega)
  refine jT_eq (LN := [(6, (0, 1)), (5, (0, 0)), (4, (4, 3)), (3, (4, 2)), (2, (4, 1)), (1, (4, 0)), (0, (6, 0))]) (stN := [(0, 0), (4, 1)]) (hsN := [jzA_265, jzA_266, jgh, jgh, jgh, jgh, jgh, jgh, jgh, jgh, jgh, jgh, jgh, jgh, jzA_322, (100, [], jS0), jgh, jgh, jgh, jgh, jgh, jgh, jgh, jgh, jgh, jgh, jgh, jgh, jgh, jgh, jgh, (117, [], [35, 36, 37, 38]), jgh, jgh, jgh, (7, [(4, 39), (4, (-1)), (4, (-1))], []), jgh, jgh, jgh, (114, [], [40]), jgh]) (rfl) (by simp only [List.cons.injEq, Prod.mk.injEq, and_true, true_and] <;> ((try unfold jw); (try unfold jwl); omega)) (rfl) ?_
  refine jT_xaload_n (v := (6, 0)) (pcN := 2363) jI_379_2362 rfl rfl rfl ?_
  refine jT_xiload (v := (0, 0)) (pcN := 2365) jI_379_2363 rfl rfl rfl ?_
  refine jT_xiconst (k := 2) (pcN := 2366) jI_379_2365 rfl ?_
  refine jT_xiadd (x := 0) (y := 2) (z := 2) (pcN := 2367) jI_379_2366 rfl (by decide) rfl ?_
  refine jT_adv 1 (pcN := 2368) (LN := [(6, (0, 1)), (5, (0, 0)), (4, (4, 3)), (3, (4, 2)), (2, (4, 1)), (1, (4, 0)), (0, (6, 0))]) (stN := [(0, x2), (0, 0), (4, 1)]) (hsN := jpA_1911) (c1 := 0) (s1 := 0) (c2 := 0) (s2 := 0) (by exact rfl) ?_ (by omega) (by omega)
  refine jT_xaload_n (v := (6, 0)) (pcN := 2369) jI_379_2368 rfl rfl rfl ?_
  refine jT_xiload (v := (0, 0)) (pcN := 2371) jI_379_2369 rfl rfl rfl ?_
  refine jT_xiconst (k := 3) (pcN := 2372) jI_379_2371 rfl ?_
  refine jT_xiadd (x := 0) (y := 3) (z := 3) (pcN := 2373) jI_379_2372 rfl (by decide) rfl ?_
  refine jT_adv 1 (pcN := 2374) (LN := [(6, (0, 1)), (5, (0, 0)), (4, (4, 3)), (3, (4, 2)), (2, (4, 1)), (1, (4, 0)), (0, (6, 0))]) (stN := [(0, x3), (0, x2), (0, 0), (4, 1)]) (hsN := jpA_1911) (c1 := 0) (s1 := 0) (c2 := 0) (s2 := 0) (by exact rfl) ?_ (by omega) (by omega)
  refine jT_ifF (a := x3) (t := 2381) (by rfl) (by rfl) (by rfl) (jw_idd (by omega) (by omega)) (by simp only [jcP] <;> omega) ?_
  refine jT_xiconst (k := 1) (pcN := 2378) jI_379_2377 rfl ?_
  refine jT_xgoto (pcN := 2382) jI_379_2378 rfl ?_
  refine jT_fB [1, 15, 16, 17, 18, 19, 20, 21, 22, 23, 24, 25, 26, 27, 28, 29] 41 (y := 279) (pcN := 2385) (dC := 2) (bc1 := 0) (bc2 := 0) (c1 := 0) (c2 := 0) (as := [(4, 1), (0, 0), (0, x2), (0, 1)]) (asC := [(4, 0), (0, 0), (0, x2), (0, 1)]) (LN := [(6, (0, 1)), (5, (0, 0)), (4, (4, 3)), (3, (4, 2)), (2, (4, 1)), (1, (4, 0)), (0, (6, 0))]) (stN := []) (hsC := jpA_1519) (hsD := jpA_1820) (v := (0, 0)) (st2 := [(0, 0)]) (hs2 := jpA_1912) (jA_279_892 (d := 0) (by omega)) (by rfl) (by rfl) (by decide +kernel) (by rfl) (by rfl) (by omega) (by omega) (by omega) (by omega) rfl (by decide +kernel) ?_
  refine jT_xistore (v := (0, 0)) (LN := [(7, (0, 0)), (6, (0, 1)), (5, (0, 0)), (4, (4, 3)), (3, (4, 2)), (2, (4, 1)), (1, (4, 0)), (0, (6, 0))]) (pcN := 2387) jI_379_2385 rfl rfl rfl rfl ?_
  refine jT_xaload_n (v := (4, 1)) (pcN := 2388) jI_379_2387 rfl rfl rfl ?_
  refine jT_fR [1, 15, 16, 17, 18, 19, 20, 21, 22, 23, 24, 25, 26, 27, 28, 29] 41 (y := 186) (pcN := 2391) (dC := 0) (bc1 := 0) (bc2 := 0) (c1 := 0) (c2 := 0) (as := [(4, 1)]) (asC := [(4, 0)]) (LN := [(7, (0, 0)), (6, (0, 1)), (5, (0, 0)), (4, (4, 3)), (3, (4, 2)), (2, (4, 1)), (1, (4, 0)), (0, (6, 0))]) (stN := []) (hsC := jpA_20) (v := (0, 1)) (st2 := [(0, 1)]) (jA_186_8 (d := 0)) (by rfl) (by rfl) (by decide +kernel) (by rfl) (by rfl) (by omega) (by omega) (by omega) (by omega) rfl ?_
  refine jT_xiload (v := (0, 1)) (pcN := 2393) jI_379_2391 rfl rfl rfl ?_
  refine jT_xicT (pcN := 2398) jI_379_2393 rfl (by decide +kernel) rfl ?_
  refine jT_xiload (v := (0, 1)) (pcN := 2400) jI_379_2398 rfl rfl rfl ?_
  refine jT_xifT (pcN := 2415) jI_379_2400 rfl (by decide +kernel) rfl ?_
  refine jT_xgoto (pcN := 3740) jI_379_2415 rfl ?_
  refine jT_xiinc (x := 0) (z := 5) (LN := [(5, (0, 5)), (7, (0, 0)), (6, (0, 1)), (4, (4, 3)), (3, (4, 2)), (2, (4, 1)), (1, (4, 0)), (0, (6, 0))]) (pcN := 3743) jI_379_3740 rfl rfl (by decide) rfl rfl ?_
  refine jT_xgoto (pcN := 28) jI_379_3743 rfl ?_
  refine jT_xiload (v := (0, 5)) (pcN := 30) jI_379_28 rfl rfl rfl ?_
  refine jT_xaload_n (v := (6, 0)) (pcN := 31) jI_379_30 rfl rfl rfl ?_
  refine jT_adv 1 (pcN := 32) (LN := [(5, (0, 5)), (7, (0, 0)), (6, (0, 1)), (4, (4, 3)), (3, (4, 2)), (2, (4, 1)), (1, (4, 0)), (0, (6, 0))]) (stN := [(0, 5), (0, 5)]) (hsN := jpA_1912) (c1 := 0) (s1 := 0) (c2 := 0) (s2 := 0) (by exact rfl) ?_ (by omega) (by omega)
  refine jT_xiconst (k := 5) (pcN := 33) jI_379_32 rfl ?_
  refine jT_xisub (x := 5) (y := 5) (z := 0) (pcN := 34) jI_379_33 rfl (by decide) rfl ?_
  refine jT_xicT (pcN := 3746) jI_379_34 rfl (by decide +kernel) rfl ?_
  refine jT_xiconst (k := 1) (pcN := 3747) jI_379_3746 rfl ?_
  exact jT_ret rfl (by decide) (by show 41 ≤ 41; decide) (by omega) (by omega) ⟨rfl, rfl⟩
set_option maxRecDepth 100000 in
theorem jL_30_30 {d : Nat} {x0 x1 x2 x3 x4 : Int} (h_x0 : (-2147483648) ≤ x0 ∧ x0 ≤ 2147483647) (h_x1 : 0 ≤ x1 ∧ x1 ≤ 0) (h_x2 : 0 ≤ x2 ∧ x2 ≤ 0) (h_x3 : 1 ≤ x3 ∧ x3 ≤ 2147483647) (h_x4 : (-2147483648) ≤ x4 ∧ x4 ≤ 2147483647) : jT [x0, x1, x2, x3, x4] (d + 9) 379 50 2322 [(5, (0, 0)), (4, (4, 3)), (3, (4, 2)), (2, (4, 1)), (1, (4, 0)), (0, (6, 0))] [] jpA_3697 15 377 (fun k v hsN => k = 0 ∧ v = (0, 1)) := by
  refine jT_xaload_n (v := (4, 0)) (pcN := 2323) jI_379_2322 rfl rfl rfl ?_
  refine jT_xaload_n (v := (6, 0)) (pcN := 2324) jI_379_2323 rfl rfl rfl ?_
  refine jT_xiload (v := (0, 0)) (pcN := 2326) jI_379_2324 rfl rfl rfl ?_
  refine jT_xiconst (k := 1) (pcN := 2327) jI_379_2326 rfl ?_
  refine jT_xiadd (x := 0) (y := 1) (z := 1) (pcN := 2328) jI_379_2327 rfl (by decide) rfl ?_
  refine jT_adv 1 (pcN := 2329) (LN := [(5, (0, 0)), (4, (4, 3)), (3, (4, 2)), (2, (4, 1)), (1, (4, 0)), (0, (6, 0))]) (stN := [(0, x1), (4, 0)]) (hsN := jpA_3697) (c1 := 0) (s1 := 0) (c2 := 15) (s2 := 377) (by exact rfl) ?_ (by omega) (by omega)
  refine jT_eq (LN := [(5, (0, 0)), (4, (4, 3)), (3, (4, 2)), (2, (4, 1)), (1, (4, 0)), (0, (6, 0))]) (stN := [(0, 0), (4, 0)]) (hsN := [jzA_265, jzA_266, (101, [], [0]), jgh, (8, [(4, 30), (4, 31)], []), jgh, jgh, jgh, jgh, jgh, jgh, jgh, jgh, jgh, jzA_721, (100, [], jS0), jgh, jgh, jgh, jgh, (130, [], [37, 38, 39, 40, 41, 42]), (101, [], [0, 0, 0, 0, 0, 0]), jgh, jgh, jgh, jgh, jgh, jgh, jgh, jgh, jgh, jgh, jgh, (117, [], [43, 44, 45, 46]), jgh, jgh, jgh, (100, [], (jenc (jlg 0))), jgh, jgh, jgh, jgh, jgh, (7, [(4, 47), (4, (-1)), (4, (-1))], []), jgh, jgh, jgh, (114, [], [48]), (4, [(4, 49), (1, 1)], []), (101, [], [0, 0, 0, 0, 0, 0])]) (rfl) (by simp only [List.cons.injEq, Prod.mk.injEq, and_true, true_and] <;> ((try unfold jw); (try unfold jwl); omega)) (rfl) ?_
  refine jT_xaload_n (v := (6, 0)) (pcN := 2330) jI_379_2329 rfl rfl rfl ?_
  refine jT_xiload (v := (0, 0)) (pcN := 2332) jI_379_2330 rfl rfl rfl ?_
  refine jT_xiconst (k := 2) (pcN := 2333) jI_379_2332 rfl ?_
  refine jT_xiadd (x := 0) (y := 2) (z := 2) (pcN := 2334) jI_379_2333 rfl (by decide) rfl ?_
  refine jT_adv 1 (pcN := 2335) (LN := [(5, (0, 0)), (4, (4, 3)), (3, (4, 2)), (2, (4, 1)), (1, (4, 0)), (0, (6, 0))]) (stN := [(0, x2), (0, 0), (4, 0)]) (hsN := jpA_3697) (c1 := 0) (s1 := 0) (c2 := 15) (s2 := 377) (by exact rfl) ?_ (by omega) (by omega)
  refine jT_eq (LN := [(5, (0, 0)), (4, (4, 3)), (3, (4, 2)), (2, (4, 1)), (1, (4, 0)), (0, (6, 0))]) (stN := [(0, 0), (0, 0), (4, 0)]) (hsN := [jzA_265, jzA_266, (101, [], [0]), jgh, (8, [(4, 30), (4, 31)], []), jgh, jgh, jgh, jgh, jgh, jgh, jgh, jgh, jgh, jzA_721, (100, [], jS0), jgh, jgh, jgh, jgh, (130, [], [37, 38, 39, 40, 41, 42]), (101, [], [0, 0, 0, 0, 0, 0]), jgh, jgh, jgh, jgh, jgh, jgh, jgh, jgh, jgh, jgh, jgh, (117, [], [43, 44, 45, 46]), jgh, jgh, jgh, (100, [], (jenc (jlg 0))), jgh, jgh, jgh, jgh, jgh, (7, [(4, 47), (4, (-1)), (4, (-1))], []), jgh, jgh, jgh, (114, [], [48]), (4, [(4, 49), (1, 1)], []), (101, [], [0, 0, 0, 0, 0, 0])]) (rfl) (by simp only [List.cons.injEq, Prod.mk.injEq, and_true, true_and] <;> ((try unfold jw); (try unfold jwl); omega)) (rfl) ?_
  refine jT_xaload_n (v := (6, 0)) (pcN := 2336) jI_379_2335 rfl rfl rfl ?_
  refine jT_xiload (v := (0, 0)) (pcN := 2338) jI_379_2336 rfl rfl rfl ?_
  refine jT_xiconst (k := 3) (pcN := 2339) jI_379_2338 rfl ?_
  refine jT_xiadd (x := 0) (y := 3) (z := 3) (pcN := 2340) jI_379_2339 rfl (by decide) rfl ?_
  refine jT_adv 1 (pcN := 2341) (LN := [(5, (0, 0)), (4, (4, 3)), (3, (4, 2)), (2, (4, 1)), (1, (4, 0)), (0, (6, 0))]) (stN := [(0, x3), (0, 0), (0, 0), (4, 0)]) (hsN := jpA_3697) (c1 := 0) (s1 := 0) (c2 := 15) (s2 := 377) (by exact rfl) ?_ (by omega) (by omega)
  refine jT_ifF (a := x3) (t := 2348) (by rfl) (by rfl) (by rfl) (jw_idd (by omega) (by omega)) (by simp only [jcP] <;> omega) ?_
  refine jT_xiconst (k := 1) (pcN := 2345) jI_379_2344 rfl ?_
  refine jT_xgoto (pcN := 2349) jI_379_2345 rfl ?_
  refine jT_xaload_n (v := (4, 2)) (pcN := 2350) jI_379_2349 rfl rfl rfl ?_
  refine jT_fB [0, 2, 4, 5, 6, 7, 8, 9, 10, 11, 12, 13, 14, 30, 31, 32, 33, 34, 35, 36, 43, 44, 45, 46, 47, 48, 49] 50 (y := 354) (pcN := 2353) (dC := 6) (bc1 := 5) (bc2 := 17) (c1 := 10) (c2 := 360) (as := [(4, 0), (0, 0), (0, 0), (0, 1), (4, 2)]) (asC := [(4, 0), (0, 0), (0, 0), (0, 1), (4, 1)]) (LN := [(5, (0, 0)), (4, (4, 3)), (3, (4, 2)), (2, (4, 1)), (1, (4, 0)), (0, (6, 0))]) (stN := []) (hsC := jpA_3615) (hsD := jpA_3617) (v := (0, 0)) (st2 := [(0, 0)]) (hs2 := jpA_3698) (jA_354_906 (d := 0)) (by rfl) (by rfl) (by decide +kernel) (by rfl) (by rfl) (by omega) (by omega) (by omega) (by omega) rfl (by decide +kernel) ?_
  refine jT_xistore (v := (0, 0)) (LN := [(6, (0, 0)), (5, (0, 0)), (4, (4, 3)), (3, (4, 2)), (2, (4, 1)), (1, (4, 0)), (0, (6, 0))]) (pcN := 2355) jI_379_2353 rfl rfl rfl rfl ?_
  refine jT_xaload_n (v := (4, 1)) (pcN := 2356) jI_379_2355 rfl rfl rfl ?_
  refine jT_xaload_n (v := (6, 0)) (pcN := 2357) jI_379_2356 rfl rfl rfl ?_
  refine jT_xiload (v := (0, 0)) (pcN := 2359) jI_379_2357 rfl rfl rfl ?_
  refine jT_xiconst (k := 1) (pcN := 2360) jI_379_2359 rfl ?_
  refine jT_xiadd (x := 0) (y := 1) (z := 1) (pcN := 2361) jI_379_2360 rfl (by decide) rfl ?_
  refine jT_adv 1 (pcN := 2362) (LN := [(6, (0, 0)), (5, (0, 0)), (4, (4, 3)), (3, (4, 2)), (2, (4, 1)), (1, (4, 0)), (0, (6, 0))]) (stN := [(0, x1), (4, 1)]) (hsN := jpA_3698) (c1 := 0) (s1 := 0) (c2 := 10) (s2 := 360) (by exact rfl) ?_ (by omega) (by omega)
  refine jT_eq (LN := [(6, (0, 0)), (5, (0, 0)), (4, (4, 3)), (3, (4, 2)), (2, (4, 1)), (1, (4, 0)), (0, (6, 0))]) (stN := [(0, 0), (4, 1)]) (hsN := [jzA_265, jzA_266, (101, [], [1200]), jgh, (8, [(4, 30), (4, 31)], []), jgh, jgh, jgh, jgh, jgh, jgh, jgh, jgh, jgh, jzA_721, (100, [], jS0), jgh, jgh, jgh, jgh, (130, [], [37, 38, 39, 40, 41, 42]), (101, [], [0, 0, 0, 0, 0, 0]), jgh, jgh, jgh, jgh, jgh, jgh, jgh, jgh, jgh, jgh, jgh, (117, [], [43, 44, 45, 46]), jgh, jgh, jgh, (100, [], (jenc (jlg 0))), jgh, jgh, jgh, jgh, jgh, (7, [(4, 47), (4, 50), (4, (-1))], []), jgh, jgh, jgh, (114, [], [48]), (4, [(4, 49), (1, 1)], []), (101, [], [0, 0, 0, 0, 0, 0]), (114, [], [54]), (101, [], [0, 0, 0, 0, 0, 0]), (4, [(4, 51), (1, 1)], []), (101, [], [1, 0, 0, 0, 0, 0]), (4, [(4, 53), (1, 1)], [])]) (rfl) (by simp only [List.cons.injEq, Prod.mk.injEq, and_true, true_and] <;> ((try unfold jw); (try unfold jwl); omega)) (rfl) ?_
  refine jT_xaload_n (v := (6, 0)) (pcN := 2363) jI_379_2362 rfl rfl rfl ?_
  refine jT_xiload (v := (0, 0)) (pcN := 2365) jI_379_2363 rfl rfl rfl ?_
  refine jT_xiconst (k := 2) (pcN := 2366) jI_379_2365 rfl ?_
  refine jT_xiadd (x := 0) (y := 2) (z := 2) (pcN := 2367) jI_379_2366 rfl (by decide) rfl ?_
  refine jT_adv 1 (pcN := 2368) (LN := [(6, (0, 0)), (5, (0, 0)), (4, (4, 3)), (3, (4, 2)), (2, (4, 1)), (1, (4, 0)), (0, (6, 0))]) (stN := [(0, x2), (0, 0), (4, 1)]) (hsN := jpA_3698) (c1 := 0) (s1 := 0) (c2 := 10) (s2 := 360) (by exact rfl) ?_ (by omega) (by omega)
  refine jT_eq (LN := [(6, (0, 0)), (5, (0, 0)), (4, (4, 3)), (3, (4, 2)), (2, (4, 1)), (1, (4, 0)), (0, (6, 0))]) (stN := [(0, 0), (0, 0), (4, 1)]) (hsN := [jzA_265, jzA_266, (101, [], [1200]), jgh, (8, [(4, 30), (4, 31)], []), jgh, jgh, jgh, jgh, jgh, jgh, jgh, jgh, jgh, jzA_721, (100, [], jS0), jgh, jgh, jgh, jgh, (130, [], [37, 38, 39, 40, 41, 42]), (101, [], [0, 0, 0, 0, 0, 0]), jgh, jgh, jgh, jgh, jgh, jgh, jgh, jgh, jgh, jgh, jgh, (117, [], [43, 44, 45, 46]), jgh, jgh, jgh, (100, [], (jenc (jlg 0))), jgh, jgh, jgh, jgh, jgh, (7, [(4, 47), (4, 50), (4, (-1))], []), jgh, jgh, jgh, (114, [], [48]), (4, [(4, 49), (1, 1)], []), (101, [], [0, 0, 0, 0, 0, 0]), (114, [], [54]), (101, [], [0, 0, 0, 0, 0, 0]), (4, [(4, 51), (1, 1)], []), (101, [], [1, 0, 0, 0, 0, 0]), (4, [(4, 53), (1, 1)], [])]) (rfl) (by simp only [List.cons.injEq, Prod.mk.injEq, and_true, true_and] <;> ((try unfold jw); (try unfold jwl); omega)) (rfl) ?_
  refine jT_xaload_n (v := (6, 0)) (pcN := 2369) jI_379_2368 rfl rfl rfl ?_
  refine jT_xiload (v := (0, 0)) (pcN := 2371) jI_379_2369 rfl rfl rfl ?_
  refine jT_xiconst (k := 3) (pcN := 2372) jI_379_2371 rfl ?_
  refine jT_xiadd (x := 0) (y := 3) (z := 3) (pcN := 2373) jI_379_2372 rfl (by decide) rfl ?_
  refine jT_adv 1 (pcN := 2374) (LN := [(6, (0, 0)), (5, (0, 0)), (4, (4, 3)), (3, (4, 2)), (2, (4, 1)), (1, (4, 0)), (0, (6, 0))]) (stN := [(0, x3), (0, 0), (0, 0), (4, 1)]) (hsN := jpA_3698) (c1 := 0) (s1 := 0) (c2 := 10) (s2 := 360) (by exact rfl) ?_ (by omega) (by omega)
  refine jT_ifF (a := x3) (t := 2381) (by rfl) (by rfl) (by rfl) (jw_idd (by omega) (by omega)) (by simp only [jcP] <;> omega) ?_
  refine jT_xiconst (k := 1) (pcN := 2378) jI_379_2377 rfl ?_
  refine jT_xgoto (pcN := 2382) jI_379_2378 rfl ?_
  refine jT_fB [1, 15, 16, 17, 18, 19, 20, 21, 22, 23, 24, 25, 26, 27, 28, 29, 37, 38, 39, 40, 41, 42] 55 (y := 279) (pcN := 2385) (dC := 8) (bc1 := 10) (bc2 := 360) (c1 := 0) (c2 := 0) (as := [(4, 1), (0, 0), (0, 0), (0, 1)]) (asC := [(4, 0), (0, 0), (0, 0), (0, 1)]) (LN := [(6, (0, 0)), (5, (0, 0)), (4, (4, 3)), (3, (4, 2)), (2, (4, 1)), (1, (4, 0)), (0, (6, 0))]) (stN := []) (hsC := jpA_1695) (hsD := jpA_3636) (v := (0, 1200)) (st2 := [(0, 1200)]) (hs2 := jpA_3699) (jA_279_917 (d := 0)) (by rfl) (by rfl) (by decide +kernel) (by rfl) (by rfl) (by omega) (by omega) (by omega) (by omega) rfl (by decide +kernel) ?_
  refine jT_xistore (v := (0, 1200)) (LN := [(7, (0, 1200)), (6, (0, 0)), (5, (0, 0)), (4, (4, 3)), (3, (4, 2)), (2, (4, 1)), (1, (4, 0)), (0, (6, 0))]) (pcN := 2387) jI_379_2385 rfl rfl rfl rfl ?_
  refine jT_xaload_n (v := (4, 1)) (pcN := 2388) jI_379_2387 rfl rfl rfl ?_
  refine jT_fR [1, 15, 16, 17, 18, 19, 20, 21, 22, 23, 24, 25, 26, 27, 28, 29] 65 (y := 186) (pcN := 2391) (dC := 0) (bc1 := 0) (bc2 := 0) (c1 := 0) (c2 := 0) (as := [(4, 1)]) (asC := [(4, 0)]) (LN := [(7, (0, 1200)), (6, (0, 0)), (5, (0, 0)), (4, (4, 3)), (3, (4, 2)), (2, (4, 1)), (1, (4, 0)), (0, (6, 0))]) (stN := []) (hsC := jpA_22) (v := (0, 0)) (st2 := [(0, 0)]) (jA_186_726 (d := 0)) (by rfl) (by rfl) (by decide +kernel) (by rfl) (by rfl) (by omega) (by omega) (by omega) (by omega) rfl ?_
  refine jT_xiload (v := (0, 0)) (pcN := 2393) jI_379_2391 rfl rfl rfl ?_
  refine jT_xicT (pcN := 2398) jI_379_2393 rfl (by decide +kernel) rfl ?_
  refine jT_xiload (v := (0, 0)) (pcN := 2400) jI_379_2398 rfl rfl rfl ?_
  refine jT_xifF (t := 2415) (pcN := 2403) jI_379_2400 rfl (by decide +kernel) rfl rfl ?_
  refine jT_xaload_n (v := (4, 2)) (pcN := 2404) jI_379_2403 rfl rfl rfl ?_
  refine jT_xiconst (k := 0) (pcN := 2405) jI_379_2404 rfl ?_
  refine jT_lald (x := 1200) (a := 2) (j := 0) (fs := []) (X := [1200]) jI_379_2405 rfl rfl rfl rfl ?_
  refine jT_eq (LN := [(7, (0, 1200)), (6, (0, 0)), (5, (0, 0)), (4, (4, 3)), (3, (4, 2)), (2, (4, 1)), (1, (4, 0)), (0, (6, 0))]) (stN := [(1, 1200)]) (hsN := jpA_3699) rfl rfl rfl ?_
  refine jT_xiload (v := (0, 1200)) (pcN := 2408) jI_379_2406 rfl rfl rfl ?_
  refine jT_xi2l (x := 1200) (z := 1200) (pcN := 2409) jI_379_2408 rfl (by decide +kernel) rfl ?_
  refine jT_lcmp (a := 1200) (b := 1200) (z := 0) (by rfl) (by rfl) (by decide +kernel) (by decide +kernel) (by decide) ?_
  refine jT_xifT (pcN := 2415) jI_379_2410 rfl (by decide +kernel) rfl ?_
  refine jT_xgoto (pcN := 3740) jI_379_2415 rfl ?_
  refine jT_xiinc (x := 0) (z := 5) (LN := [(5, (0, 5)), (7, (0, 1200)), (6, (0, 0)), (4, (4, 3)), (3, (4, 2)), (2, (4, 1)), (1, (4, 0)), (0, (6, 0))]) (pcN := 3743) jI_379_3740 rfl rfl (by decide) rfl rfl ?_
  refine jT_xgoto (pcN := 28) jI_379_3743 rfl ?_
  refine jT_xiload (v := (0, 5)) (pcN := 30) jI_379_28 rfl rfl rfl ?_
  refine jT_xaload_n (v := (6, 0)) (pcN := 31) jI_379_30 rfl rfl rfl ?_
  refine jT_adv 1 (pcN := 32) (LN := [(5, (0, 5)), (7, (0, 1200)), (6, (0, 0)), (4, (4, 3)), (3, (4, 2)), (2, (4, 1)), (1, (4, 0)), (0, (6, 0))]) (stN := [(0, 5), (0, 5)]) (hsN := jpA_3699) (c1 := 0) (s1 := 0) (c2 := 0) (s2 := 0) (by exact rfl) ?_ (by omega) (by omega)
  refine jT_xiconst (k := 5) (pcN := 33) jI_379_32 rfl ?_
  refine jT_xisub (x := 5) (y := 5) (z := 0) (pcN := 34) jI_379_33 rfl (by decide) rfl ?_
  refine jT_xicT (pcN := 3746) jI_379_34 rfl (by decide +kernel) rfl ?_
  refine jT_xiconst (k := 1) (pcN := 3747) jI_379_3746 rfl ?_
  exact jT_ret rfl (by decide) (by show 50 ≤ 65; decide) (by omega) (by omega) ⟨rfl, rfl⟩
set_option maxRecDepth 100000 in
theorem jL_30_31 {d : Nat} {x0 x1 x2 x3 x4 : Int} (h_x0 : (-2147483648) ≤ x0 ∧ x0 ≤ 2147483647) (h_x1 : 0 ≤ x1 ∧ x1 ≤ 0) (h_x2 : 1 ≤ x2 ∧ x2 ≤ 2147483647) (h_x3 : 1 ≤ x3 ∧ x3 ≤ 2147483647) (h_x4 : (-2147483648) ≤ x4 ∧ x4 ≤ 2147483647) : jT [x0, x1, x2, x3, x4] (d + 3) 379 41 2322 [(5, (0, 0)), (4, (4, 3)), (3, (4, 2)), (2, (4, 1)), (1, (4, 0)), (0, (6, 0))] [] jpA_1911 1 6 (fun k v hsN => k = 0 ∧ v = (0, 1)) := by
  refine jT_xaload_n (v := (4, 0)) (pcN := 2323) jI_379_2322 rfl rfl rfl ?_
  refine jT_xaload_n (v := (6, 0)) (pcN := 2324) jI_379_2323 rfl rfl rfl ?_
  refine jT_xiload (v := (0, 0)) (pcN := 2326) jI_379_2324 rfl rfl rfl ?_
  refine jT_xiconst (k := 1) (pcN := 2327) jI_379_2326 rfl ?_
  refine jT_xiadd (x := 0) (y := 1) (z := 1) (pcN := 2328) jI_379_2327 rfl (by decide) rfl ?_
  refine jT_adv 1 (pcN := 2329) (LN := [(5, (0, 0)), (4, (4, 3)), (3, (4, 2)), (2, (4, 1)), (1, (4, 0)), (0, (6, 0))]) (stN := [(0, x1), (4, 0)]) (hsN := jpA_1911) (c1 := 0) (s1 := 0) (c2 := 1) (s2 := 6) (by exact rfl) ?_ (by omega) (by omega)
  refine jT_eq (LN := [(5, (0, 0)), (4, (4, 3)), (3, (4, 2)), (2, (4, 1)), (1, (4, 0)), (0, (6, 0))]) (stN := [(0, 0), (4, 0)]) (hsN := [jzA_265, jzA_266, jgh, jgh, jgh, jgh, jgh, jgh, jgh, jgh, jgh, jgh, jgh, jgh, jzA_322, (100, [], jS0), jgh, jgh, jgh, jgh, jgh, jgh, jgh, jgh, jgh, jgh, jgh, jgh, jgh, jgh, jgh, (117, [], [35, 36, 37, 38]), jgh, jgh, jgh, (7, [(4, 39), (4, (-1)), (4, (-1))], []), jgh, jgh, jgh, (114, [], [40]), jgh]) (rfl) (by simp only [List.cons.injEq, Prod.mk.injEq, and_true, true_and] <;> ((try unfold jw); (try unfold jwl); omega)) (rfl) ?_
  refine jT_xaload_n (v := (6, 0)) (pcN := 2330) jI_379_2329 rfl rfl rfl ?_
  refine jT_xiload (v := (0, 0)) (pcN := 2332) jI_379_2330 rfl rfl rfl ?_
  refine jT_xiconst (k := 2) (pcN := 2333) jI_379_2332 rfl ?_
  refine jT_xiadd (x := 0) (y := 2) (z := 2) (pcN := 2334) jI_379_2333 rfl (by decide) rfl ?_
  refine jT_adv 1 (pcN := 2335) (LN := [(5, (0, 0)), (4, (4, 3)), (3, (4, 2)), (2, (4, 1)), (1, (4, 0)), (0, (6, 0))]) (stN := [(0, x2), (0, 0), (4, 0)]) (hsN := jpA_1911) (c1 := 0) (s1 := 0) (c2 := 1) (s2 := 6) (by exact rfl) ?_ (by omega) (by omega)
  refine jT_xaload_n (v := (6, 0)) (pcN := 2336) jI_379_2335 rfl rfl rfl ?_
  refine jT_xiload (v := (0, 0)) (pcN := 2338) jI_379_2336 rfl rfl rfl ?_
  refine jT_xiconst (k := 3) (pcN := 2339) jI_379_2338 rfl ?_
  refine jT_xiadd (x := 0) (y := 3) (z := 3) (pcN := 2340) jI_379_2339 rfl (by decide) rfl ?_
  refine jT_adv 1 (pcN := 2341) (LN := [(5, (0, 0)), (4, (4, 3)), (3, (4, 2)), (2, (4, 1)), (1, (4, 0)), (0, (6, 0))]) (stN := [(0, x3), (0, x2), (0, 0), (4, 0)]) (hsN := jpA_1911) (c1 := 0) (s1 := 0) (c2 := 1) (s2 := 6) (by exact rfl) ?_ (by omega) (by omega)
  refine jT_ifF (a := x3) (t := 2348) (by rfl) (by rfl) (by rfl) (jw_idd (by omega) (by omega)) (by simp only [jcP] <;> omega) ?_
  refine jT_xiconst (k := 1) (pcN := 2345) jI_379_2344 rfl ?_
  refine jT_xgoto (pcN := 2349) jI_379_2345 rfl ?_
  refine jT_xaload_n (v := (4, 2)) (pcN := 2350) jI_379_2349 rfl rfl rfl ?_
  refine jT_fR [0, 2, 4, 5, 6, 7, 8, 9, 10, 11, 12, 13, 14, 30, 31, 32, 33, 34, 35, 36, 37, 38, 39, 40] 41 (y := 354) (pcN := 2353) (dC := 2) (bc1 := 1) (bc2 := 6) (c1 := 0) (c2 := 0) (as := [(4, 0), (0, 0), (0, x2), (0, 1), (4, 2)]) (asC := [(4, 0), (0, 0), (0, x2), (0, 1), (4, 1)]) (LN := [(5, (0, 0)), (4, (4, 3)), (3, (4, 2)), (2, (4, 1)), (1, (4, 0)), (0, (6, 0))]) (stN := []) (hsC := jpA_1806) (v := (0, 1)) (st2 := [(0, 1)]) (jA_354_919 (d := 0) (by omega)) (by rfl) (by rfl) (by decide +kernel) (by rfl) (by rfl) (by omega) (by omega) (by omega) (by omega) rfl ?_
  refine jT_xistore (v := (0, 1)) (LN := [(6, (0, 1)), (5, (0, 0)), (4, (4, 3)), (3, (4, 2)), (2, (4, 1)), (1, (4, 0)), (0, (6, 0))]) (pcN := 2355) jI_379_2353 rfl rfl rfl rfl ?_
  refine jT_xaload_n (v := (4, 1)) (pcN := 2356) jI_379_2355 rfl rfl rfl ?_
  refine jT_xaload_n (v := (6, 0)) (pcN := 2357) jI_379_2356 rfl rfl rfl ?_
  refine jT_xiload (v := (0, 0)) (pcN := 2359) jI_379_2357 rfl rfl rfl ?_
  refine jT_xiconst (k := 1) (pcN := 2360) jI_379_2359 rfl ?_
  refine jT_xiadd (x := 0) (y := 1) (z := 1) (pcN := 2361) jI_379_2360 rfl (by decide) rfl ?_
  refine jT_adv 1 (pcN := 2362) (LN := [(6, (0, 1)), (5, (0, 0)), (4, (4, 3)), (3, (4, 2)), (2, (4, 1)), (1, (4, 0)), (0, (6, 0))]) (stN := [(0, x1), (4, 1)]) (hsN := jpA_1911) (c1 := 0) (s1 := 0) (c2 := 0) (s2 := 0) (by exact rfl) ?_ (by omega) (by omega)
  refine jT_eq (LN := [(6, (0, 1)), (5, (0, 0)), (4, (4, 3)), (3, (4, 2)), (2, (4, 1)), (1, (4, 0)), (0, (6, 0))]) (stN := [(0, 0), (4, 1)]) (hsN := [jzA_265, jzA_266, jgh, jgh, jgh, jgh, jgh, jgh, jgh, jgh, jgh, jgh, jgh, jgh, jzA_322, (100, [], jS0), jgh, jgh, jgh, jgh, jgh, jgh, jgh, jgh, jgh, jgh, jgh, jgh, jgh, jgh, jgh, (117, [], [35, 36, 37, 38]), jgh, jgh, jgh, (7, [(4, 39), (4, (-1)), (4, (-1))], []), jgh, jgh, jgh, (114, [], [40]), jgh]) (rfl) (by simp only [List.cons.injEq, Prod.mk.injEq, and_true, true_and] <;> ((try unfold jw); (try unfold jwl); omega)) (rfl) ?_
  refine jT_xaload_n (v := (6, 0)) (pcN := 2363) jI_379_2362 rfl rfl rfl ?_
  refine jT_xiload (v := (0, 0)) (pcN := 2365) jI_379_2363 rfl rfl rfl ?_
  refine jT_xiconst (k := 2) (pcN := 2366) jI_379_2365 rfl ?_
  refine jT_xiadd (x := 0) (y := 2) (z := 2) (pcN := 2367) jI_379_2366 rfl (by decide) rfl ?_
  refine jT_adv 1 (pcN := 2368) (LN := [(6, (0, 1)), (5, (0, 0)), (4, (4, 3)), (3, (4, 2)), (2, (4, 1)), (1, (4, 0)), (0, (6, 0))]) (stN := [(0, x2), (0, 0), (4, 1)]) (hsN := jpA_1911) (c1 := 0) (s1 := 0) (c2 := 0) (s2 := 0) (by exact rfl) ?_ (by omega) (by omega)
  refine jT_xaload_n (v := (6, 0)) (pcN := 2369) jI_379_2368 rfl rfl rfl ?_
  refine jT_xiload (v := (0, 0)) (pcN := 2371) jI_379_2369 rfl rfl rfl ?_
  refine jT_xiconst (k := 3) (pcN := 2372) jI_379_2371 rfl ?_
  refine jT_xiadd (x := 0) (y := 3) (z := 3) (pcN := 2373) jI_379_2372 rfl (by decide) rfl ?_
  refine jT_adv 1 (pcN := 2374) (LN := [(6, (0, 1)), (5, (0, 0)), (4, (4, 3)), (3, (4, 2)), (2, (4, 1)), (1, (4, 0)), (0, (6, 0))]) (stN := [(0, x3), (0, x2), (0, 0), (4, 1)]) (hsN := jpA_1911) (c1 := 0) (s1 := 0) (c2 := 0) (s2 := 0) (by exact rfl) ?_ (by omega) (by omega)
  refine jT_ifF (a := x3) (t := 2381) (by rfl) (by rfl) (by rfl) (jw_idd (by omega) (by omega)) (by simp only [jcP] <;> omega) ?_
  refine jT_xiconst (k := 1) (pcN := 2378) jI_379_2377 rfl ?_
  refine jT_xgoto (pcN := 2382) jI_379_2378 rfl ?_
  refine jT_fB [1, 15, 16, 17, 18, 19, 20, 21, 22, 23, 24, 25, 26, 27, 28, 29] 41 (y := 279) (pcN := 2385) (dC := 2) (bc1 := 0) (bc2 := 0) (c1 := 0) (c2 := 0) (as := [(4, 1), (0, 0), (0, x2), (0, 1)]) (asC := [(4, 0), (0, 0), (0, x2), (0, 1)]) (LN := [(6, (0, 1)), (5, (0, 0)), (4, (4, 3)), (3, (4, 2)), (2, (4, 1)), (1, (4, 0)), (0, (6, 0))]) (stN := []) (hsC := jpA_1519) (hsD := jpA_1820) (v := (0, 0)) (st2 := [(0, 0)]) (hs2 := jpA_1912) (jA_279_920 (d := 0) (by omega)) (by rfl) (by rfl) (by decide +kernel) (by rfl) (by rfl) (by omega) (by omega) (by omega) (by omega) rfl (by decide +kernel) ?_
  refine jT_xistore (v := (0, 0)) (LN := [(7, (0, 0)), (6, (0, 1)), (5, (0, 0)), (4, (4, 3)), (3, (4, 2)), (2, (4, 1)), (1, (4, 0)), (0, (6, 0))]) (pcN := 2387) jI_379_2385 rfl rfl rfl rfl ?_
  refine jT_xaload_n (v := (4, 1)) (pcN := 2388) jI_379_2387 rfl rfl rfl ?_
  refine jT_fR [1, 15, 16, 17, 18, 19, 20, 21, 22, 23, 24, 25, 26, 27, 28, 29] 41 (y := 186) (pcN := 2391) (dC := 0) (bc1 := 0) (bc2 := 0) (c1 := 0) (c2 := 0) (as := [(4, 1)]) (asC := [(4, 0)]) (LN := [(7, (0, 0)), (6, (0, 1)), (5, (0, 0)), (4, (4, 3)), (3, (4, 2)), (2, (4, 1)), (1, (4, 0)), (0, (6, 0))]) (stN := []) (hsC := jpA_20) (v := (0, 1)) (st2 := [(0, 1)]) (jA_186_8 (d := 0)) (by rfl) (by rfl) (by decide +kernel) (by rfl) (by rfl) (by omega) (by omega) (by omega) (by omega) rfl ?_
  refine jT_xiload (v := (0, 1)) (pcN := 2393) jI_379_2391 rfl rfl rfl ?_
  refine jT_xicT (pcN := 2398) jI_379_2393 rfl (by decide +kernel) rfl ?_
  refine jT_xiload (v := (0, 1)) (pcN := 2400) jI_379_2398 rfl rfl rfl ?_
  refine jT_xifT (pcN := 2415) jI_379_2400 rfl (by decide +kernel) rfl ?_
  refine jT_xgoto (pcN := 3740) jI_379_2415 rfl ?_
  refine jT_xiinc (x := 0) (z := 5) (LN := [(5, (0, 5)), (7, (0, 0)), (6, (0, 1)), (4, (4, 3)), (3, (4, 2)), (2, (4, 1)), (1, (4, 0)), (0, (6, 0))]) (pcN := 3743) jI_379_3740 rfl rfl (by decide) rfl rfl ?_
  refine jT_xgoto (pcN := 28) jI_379_3743 rfl ?_
  refine jT_xiload (v := (0, 5)) (pcN := 30) jI_379_28 rfl rfl rfl ?_
  refine jT_xaload_n (v := (6, 0)) (pcN := 31) jI_379_30 rfl rfl rfl ?_
  refine jT_adv 1 (pcN := 32) (LN := [(5, (0, 5)), (7, (0, 0)), (6, (0, 1)), (4, (4, 3)), (3, (4, 2)), (2, (4, 1)), (1, (4, 0)), (0, (6, 0))]) (stN := [(0, 5), (0, 5)]) (hsN := jpA_1912) (c1 := 0) (s1 := 0) (c2 := 0) (s2 := 0) (by exact rfl) ?_ (by omega) (by omega)
  refine jT_xiconst (k := 5) (pcN := 33) jI_379_32 rfl ?_
  refine jT_xisub (x := 5) (y := 5) (z := 0) (pcN := 34) jI_379_33 rfl (by decide) rfl ?_
  refine jT_xicT (pcN := 3746) jI_379_34 rfl (by decide +kernel) rfl ?_
  refine jT_xiconst (k := 1) (pcN := 3747) jI_379_3746 rfl ?_
  exact jT_ret rfl (by decide) (by show 41 ≤ 41; decide) (by omega) (by omega) ⟨rfl, rfl⟩
set_option maxRecDepth 100000 in
theorem jL_30_32 {d : Nat} {x0 x1 x2 x3 x4 : Int} (h_x0 : (-2147483648) ≤ x0 ∧ x0 ≤ 2147483647) (h_x1 : 1 ≤ x1 ∧ x1 ≤ 1) (h_x2 : (-2147483648) ≤ x2 ∧ x2 ≤ (-1)) (h_x3 : 1 ≤ x3 ∧ x3 ≤ 2147483647) (h_x4 : (-2147483648) ≤ x4 ∧ x4 ≤ 2147483647) : jT [x0, x1, x2, x3, x4] (d + 3) 379 41 2322 [(5, (0, 0)), (4, (4, 3)), (3, (4, 2)), (2, (4, 1)), (1, (4, 0)), (0, (6, 0))] [] jpA_1923 1 6 (fun k v hsN => k = 0 ∧ v = (0, 1)) := by
  refine jT_xaload_n (v := (4, 0)) (pcN := 2323) jI_379_2322 rfl rfl rfl ?_
  refine jT_xaload_n (v := (6, 0)) (pcN := 2324) jI_379_2323 rfl rfl rfl ?_
  refine jT_xiload (v := (0, 0)) (pcN := 2326) jI_379_2324 rfl rfl rfl ?_
  refine jT_xiconst (k := 1) (pcN := 2327) jI_379_2326 rfl ?_
  refine jT_xiadd (x := 0) (y := 1) (z := 1) (pcN := 2328) jI_379_2327 rfl (by decide) rfl ?_
  refine jT_adv 1 (pcN := 2329) (LN := [(5, (0, 0)), (4, (4, 3)), (3, (4, 2)), (2, (4, 1)), (1, (4, 0)), (0, (6, 0))]) (stN := [(0, x1), (4, 0)]) (hsN := jpA_1923) (c1 := 0) (s1 := 0) (c2 := 1) (s2 := 6) (by exact rfl) ?_ (by omega) (by omega)
  refine jT_eq (LN := [(5, (0, 0)), (4, (4, 3)), (3, (4, 2)), (2, (4, 1)), (1, (4, 0)), (0, (6, 0))]) (stN := [(0, 1), (4, 0)]) (hsN := [jzA_265, jzA_266, jgh, jgh, jgh, jgh, jgh, jgh, jgh, jgh, jgh, jgh, jgh, jgh, jzA_322, (100, [], jS0), jgh, jgh, jgh, jgh, jgh, jgh, jgh, jgh, jgh, jgh, jgh, jgh, jgh, jgh, jgh, (117, [], [35, 36, 37, 38]), jgh, jgh, jgh, jgh, (7, [(4, 39), (4, (-1)), (4, (-1))], []), jgh, jgh, (114, [], [40]), jgh]) (rfl) (by simp only [List.cons.injEq, Prod.mk.injEq, and_true, true_and] <;> ((try unfold jw); (try unfold jwl); omega)) (rfl) ?_
  refine jT_xaload_n (v := (6, 0)) (pcN := 2330) jI_379_2329 rfl rfl rfl ?_
  refine jT_xiload (v := (0, 0)) (pcN := 2332) jI_379_2330 rfl rfl rfl ?_
  refine jT_xiconst (k := 2) (pcN := 2333) jI_379_2332 rfl ?_
  refine jT_xiadd (x := 0) (y := 2) (z := 2) (pcN := 2334) jI_379_2333 rfl (by decide) rfl ?_
  refine jT_adv 1 (pcN := 2335) (LN := [(5, (0, 0)), (4, (4, 3)), (3, (4, 2)), (2, (4, 1)), (1, (4, 0)), (0, (6, 0))]) (stN := [(0, x2), (0, 1), (4, 0)]) (hsN := jpA_1923) (c1 := 0) (s1 := 0) (c2 := 1) (s2 := 6) (by exact rfl) ?_ (by omega) (by omega)
  refine jT_xaload_n (v := (6, 0)) (pcN := 2336) jI_379_2335 rfl rfl rfl ?_
  refine jT_xiload (v := (0, 0)) (pcN := 2338) jI_379_2336 rfl rfl rfl ?_
  refine jT_xiconst (k := 3) (pcN := 2339) jI_379_2338 rfl ?_
  refine jT_xiadd (x := 0) (y := 3) (z := 3) (pcN := 2340) jI_379_2339 rfl (by decide) rfl ?_
  refine jT_adv 1 (pcN := 2341) (LN := [(5, (0, 0)), (4, (4, 3)), (3, (4, 2)), (2, (4, 1)), (1, (4, 0)), (0, (6, 0))]) (stN := [(0, x3), (0, x2), (0, 1), (4, 0)]) (hsN := jpA_1923) (c1 := 0) (s1 := 0) (c2 := 1) (s2 := 6) (by exact rfl) ?_ (by omega) (by omega)
  refine jT_ifF (a := x3) (t := 2348) (by rfl) (by rfl) (by rfl) (jw_idd (by omega) (by omega)) (by simp only [jcP] <;> omega) ?_
  refine jT_xiconst (k := 1) (pcN := 2345) jI_379_2344 rfl ?_
  refine jT_xgoto (pcN := 2349) jI_379_2345 rfl ?_
  refine jT_xaload_n (v := (4, 2)) (pcN := 2350) jI_379_2349 rfl rfl rfl ?_
  refine jT_fR [0, 2, 4, 5, 6, 7, 8, 9, 10, 11, 12, 13, 14, 30, 31, 32, 33, 34, 35, 36, 37, 38, 39, 40] 41 (y := 354) (pcN := 2353) (dC := 2) (bc1 := 1) (bc2 := 6) (c1 := 0) (c2 := 0) (as := [(4, 0), (0, 1), (0, x2), (0, 1), (4, 2)]) (asC := [(4, 0), (0, 1), (0, x2), (0, 1), (4, 1)]) (LN := [(5, (0, 0)), (4, (4, 3)), (3, (4, 2)), (2, (4, 1)), (1, (4, 0)), (0, (6, 0))]) (stN := []) (hsC := jpA_1846) (v := (0, 1)) (st2 := [(0, 1)]) (jA_354_922 (d := 0) (by omega)) (by rfl) (by rfl) (by decide +kernel) (by rfl) (by rfl) (by omega) (by omega) (by omega) (by omega) rfl ?_
  refine jT_xistore (v := (0, 1)) (LN := [(6, (0, 1)), (5, (0, 0)), (4, (4, 3)), (3, (4, 2)), (2, (4, 1)), (1, (4, 0)), (0, (6, 0))]) (pcN := 2355) jI_379_2353 rfl rfl rfl rfl ?_
  refine jT_xaload_n (v := (4, 1)) (pcN := 2356) jI_379_2355 rfl rfl rfl ?_
  refine jT_xaload_n (v := (6, 0)) (pcN := 2357) jI_379_2356 rfl rfl rfl ?_
  refine jT_xiload (v := (0, 0)) (pcN := 2359) jI_379_2357 rfl rfl rfl ?_
  refine jT_xiconst (k := 1) (pcN := 2360) jI_379_2359 rfl ?_
  refine jT_xiadd (x := 0) (y := 1) (z := 1) (pcN := 2361) jI_379_2360 rfl (by decide) rfl ?_
  refine jT_adv 1 (pcN := 2362) (LN := [(6, (0, 1)), (5, (0, 0)), (4, (4, 3)), (3, (4, 2)), (2, (4, 1)), (1, (4, 0)), (0, (6, 0))]) (stN := [(0, x1), (4, 1)]) (hsN := jpA_1923) (c1 := 0) (s1 := 0) (c2 := 0) (s2 := 0) (by exact rfl) ?_ (by omega) (by omega)
  refine jT_eq (LN := [(6, (0, 1)), (5, (0, 0)), (4, (4, 3)), (3, (4, 2)), (2, (4, 1)), (1, (4, 0)), (0, (6, 0))]) (stN := [(0, 1), (4, 1)]) (hsN := [jzA_265, jzA_266, jgh, jgh, jgh, jgh, jgh, jgh, jgh, jgh, jgh, jgh, jgh, jgh, jzA_322, (100, [], jS0), jgh, jgh, jgh, jgh, jgh, jgh, jgh, jgh, jgh, jgh, jgh, jgh, jgh, jgh, jgh, (117, [], [35, 36, 37, 38]), jgh, jgh, jgh, jgh, (7, [(4, 39), (4, (-1)), (4, (-1))], []), jgh, jgh, (114, [], [40]), jgh]) (rfl) (by simp only [List.cons.injEq, Prod.mk.injEq, and_true, true_and] <;> ((try unfold jw); (try unfold jwl); omega)) (rfl) ?_
  refine jT_xaload_n (v := (6, 0)) (pcN := 2363) jI_379_2362 rfl rfl rfl ?_
  refine jT_xiload (v := (0, 0)) (pcN := 2365) jI_379_2363 rfl rfl rfl ?_
  refine jT_xiconst (k := 2) (pcN := 2366) jI_379_2365 rfl ?_
  refine jT_xiadd (x := 0) (y := 2) (z := 2) (pcN := 2367) jI_379_2366 rfl (by decide) rfl ?_
  refine jT_adv 1 (pcN := 2368) (LN := [(6, (0, 1)), (5, (0, 0)), (4, (4, 3)), (3, (4, 2)), (2, (4, 1)), (1, (4, 0)), (0, (6, 0))]) (stN := [(0, x2), (0, 1), (4, 1)]) (hsN := jpA_1923) (c1 := 0) (s1 := 0) (c2 := 0) (s2 := 0) (by exact rfl) ?_ (by omega) (by omega)
  refine jT_xaload_n (v := (6, 0)) (pcN := 2369) jI_379_2368 rfl rfl rfl ?_
  refine jT_xiload (v := (0, 0)) (pcN := 2371) jI_379_2369 rfl rfl rfl ?_
  refine jT_xiconst (k := 3) (pcN := 2372) jI_379_2371 rfl ?_
  refine jT_xiadd (x := 0) (y := 3) (z := 3) (pcN := 2373) jI_379_2372 rfl (by decide) rfl ?_
  refine jT_adv 1 (pcN := 2374) (LN := [(6, (0, 1)), (5, (0, 0)), (4, (4, 3)), (3, (4, 2)), (2, (4, 1)), (1, (4, 0)), (0, (6, 0))]) (stN := [(0, x3), (0, x2), (0, 1), (4, 1)]) (hsN := jpA_1923) (c1 := 0) (s1 := 0) (c2 := 0) (s2 := 0) (by exact rfl) ?_ (by omega) (by omega)
  refine jT_ifF (a := x3) (t := 2381) (by rfl) (by rfl) (by rfl) (jw_idd (by omega) (by omega)) (by simp only [jcP] <;> omega) ?_
  refine jT_xiconst (k := 1) (pcN := 2378) jI_379_2377 rfl ?_
  refine jT_xgoto (pcN := 2382) jI_379_2378 rfl ?_
  refine jT_fB [1, 15, 16, 17, 18, 19, 20, 21, 22, 23, 24, 25, 26, 27, 28, 29] 41 (y := 279) (pcN := 2385) (dC := 2) (bc1 := 0) (bc2 := 0) (c1 := 0) (c2 := 0) (as := [(4, 1), (0, 1), (0, x2), (0, 1)]) (asC := [(4, 0), (0, 1), (0, x2), (0, 1)]) (LN := [(6, (0, 1)), (5, (0, 0)), (4, (4, 3)), (3, (4, 2)), (2, (4, 1)), (1, (4, 0)), (0, (6, 0))]) (stN := []) (hsC := jpA_1519) (hsD := jpA_1820) (v := (0, 0)) (st2 := [(0, 0)]) (hs2 := jpA_1924) (jA_279_923 (d := 0) (by omega)) (by rfl) (by rfl) (by decide +kernel) (by rfl) (by rfl) (by omega) (by omega) (by omega) (by omega) rfl (by decide +kernel) ?_
  refine jT_xistore (v := (0, 0)) (LN := [(7, (0, 0)), (6, (0, 1)), (5, (0, 0)), (4, (4, 3)), (3, (4, 2)), (2, (4, 1)), (1, (4, 0)), (0, (6, 0))]) (pcN := 2387) jI_379_2385 rfl rfl rfl rfl ?_
  refine jT_xaload_n (v := (4, 1)) (pcN := 2388) jI_379_2387 rfl rfl rfl ?_
  refine jT_fR [1, 15, 16, 17, 18, 19, 20, 21, 22, 23, 24, 25, 26, 27, 28, 29] 41 (y := 186) (pcN := 2391) (dC := 0) (bc1 := 0) (bc2 := 0) (c1 := 0) (c2 := 0) (as := [(4, 1)]) (asC := [(4, 0)]) (LN := [(7, (0, 0)), (6, (0, 1)), (5, (0, 0)), (4, (4, 3)), (3, (4, 2)), (2, (4, 1)), (1, (4, 0)), (0, (6, 0))]) (stN := []) (hsC := jpA_20) (v := (0, 1)) (st2 := [(0, 1)]) (jA_186_8 (d := 0)) (by rfl) (by rfl) (by decide +kernel) (by rfl) (by rfl) (by omega) (by omega) (by omega) (by omega) rfl ?_
  refine jT_xiload (v := (0, 1)) (pcN := 2393) jI_379_2391 rfl rfl rfl ?_
  refine jT_xicT (pcN := 2398) jI_379_2393 rfl (by decide +kernel) rfl ?_
  refine jT_xiload (v := (0, 1)) (pcN := 2400) jI_379_2398 rfl rfl rfl ?_
  refine jT_xifT (pcN := 2415) jI_379_2400 rfl (by decide +kernel) rfl ?_
  refine jT_xgoto (pcN := 3740) jI_379_2415 rfl ?_
  refine jT_xiinc (x := 0) (z := 5) (LN := [(5, (0, 5)), (7, (0, 0)), (6, (0, 1)), (4, (4, 3)), (3, (4, 2)), (2, (4, 1)), (1, (4, 0)), (0, (6, 0))]) (pcN := 3743) jI_379_3740 rfl rfl (by decide) rfl rfl ?_
  refine jT_xgoto (pcN := 28) jI_379_3743 rfl ?_
  refine jT_xiload (v := (0, 5)) (pcN := 30) jI_379_28 rfl rfl rfl ?_
  refine jT_xaload_n (v := (6, 0)) (pcN := 31) jI_379_30 rfl rfl rfl ?_
  refine jT_adv 1 (pcN := 32) (LN := [(5, (0, 5)), (7, (0, 0)), (6, (0, 1)), (4, (4, 3)), (3, (4, 2)), (2, (4, 1)), (1, (4, 0)), (0, (6, 0))]) (stN := [(0, 5), (0, 5)]) (hsN := jpA_1924) (c1 := 0) (s1 := 0) (c2 := 0) (s2 := 0) (by exact rfl) ?_ (by omega) (by omega)
  refine jT_xiconst (k := 5) (pcN := 33) jI_379_32 rfl ?_
  refine jT_xisub (x := 5) (y := 5) (z := 0) (pcN := 34) jI_379_33 rfl (by decide) rfl ?_
  refine jT_xicT (pcN := 3746) jI_379_34 rfl (by decide +kernel) rfl ?_
  refine jT_xiconst (k := 1) (pcN := 3747) jI_379_3746 rfl ?_
  exact jT_ret rfl (by decide) (by show 41 ≤ 41; decide) (by omega) (by omega) ⟨rfl, rfl⟩
set_option maxRecDepth 100000 in
theorem jL_30_33 {d : Nat} {x0 x1 x2 x3 x4 : Int} (h_x0 : (-2147483648) ≤ x0 ∧ x0 ≤ 2147483647) (h_x1 : 1 ≤ x1 ∧ x1 ≤ 1) (h_x2 : 0 ≤ x2 ∧ x2 ≤ 0) (h_x3 : 1 ≤ x3 ∧ x3 ≤ 2147483647) (h_x4 : (-2147483648) ≤ x4 ∧ x4 ≤ 2147483647) : jT [x0, x1, x2, x3, x4] (d + 9) 379 50 2322 [(5, (0, 0)), (4, (4, 3)), (3, (4, 2)), (2, (4, 1)), (1, (4, 0)), (0, (6, 0))] [] jpA_3706 15 377 (fun k v hsN => k = 0 ∧ v = (0, 1)) := by
  refine jT_xaload_n (v := (4, 0)) (pcN := 2323) jI_379_2322 rfl rfl rfl ?_
  refine jT_xaload_n (v := (6, 0)) (pcN := 2324) jI_379_2323 rfl rfl rfl ?_
  refine jT_xiload (v := (0, 0)) (pcN := 2326) jI_379_2324 rfl rfl rfl ?_
  refine jT_xiconst (k := 1) (pcN := 2327) jI_379_2326 rfl ?_
  refine jT_xiadd (x := 0) (y := 1) (z := 1) (pcN := 2328) jI_379_2327 rfl (by decide) rfl ?_
  refine jT_adv 1 (pcN := 2329) (LN := [(5, (0, 0)), (4, (4, 3)), (3, (4, 2)), (2, (4, 1)), (1, (4, 0)), (0, (6, 0))]) (stN := [(0, x1), (4, 0)]) (hsN := jpA_3706) (c1 := 0) (s1 := 0) (c2 := 15) (s2 := 377) (by exact rfl) ?_ (by omega) (by omega)
  refine jT_eq (LN := [(5, (0, 0)), (4, (4, 3)), (3, (4, 2)), (2, (4, 1)), (1, (4, 0)), (0, (6, 0))]) (stN := [(0, 1), (4, 0)]) (hsN := [jzA_265, jzA_266, (101, [], [0]), jgh, (8, [(4, 30), (4, 31)], []), jgh, jgh, jgh, jgh, jgh, jgh, jgh, jgh, jgh, jzA_721, (100, [], jS0), jgh, jgh, jgh, jgh, (130, [], [37, 38, 39, 40, 41, 42]), (101, [], [0, 0, 0, 0, 0, 0]), jgh, jgh, jgh, jgh, jgh, jgh, jgh, jgh, jgh, jgh, jgh, (117, [], [43, 44, 45, 46]), jgh, jgh, jgh, (100, [], (jenc (jlg 0))), jgh, jgh, jgh, jgh, jgh, jgh, (7, [(4, 47), (4, (-1)), (4, (-1))], []), jgh, jgh, (114, [], [48]), (4, [(4, 49), (1, 1)], []), (101, [], [0, 0, 0, 0, 0, 0])]) (rfl) (by simp only [List.cons.injEq, Prod.mk.injEq, and_true, true_and] <;> ((try unfold jw); (try unfold jwl); omega)) (rfl) ?_
  refine jT_xaload_n (v := (6, 0)) (pcN := 2330) jI_379_2329 rfl rfl rfl ?_
  refine jT_xiload (v := (0, 0)) (pcN := 2332) jI_379_2330 rfl rfl rfl ?_
  refine jT_xiconst (k := 2) (pcN := 2333) jI_379_2332 rfl ?_
  refine jT_xiadd (x := 0) (y := 2) (z := 2) (pcN := 2334) jI_379_2333 rfl (by decide) rfl ?_
  refine jT_adv 1 (pcN := 2335) (LN := [(5, (0, 0)), (4, (4, 3)), (3, (4, 2)), (2, (4, 1)), (1, (4, 0)), (0, (6, 0))]) (stN := [(0, x2), (0, 1), (4, 0)]) (hsN := jpA_3706) (c1 := 0) (s1 := 0) (c2 := 15) (s2 := 377) (by exact rfl) ?_ (by omega) (by omega)
  refine jT_eq (LN := [(5, (0, 0)), (4, (4, 3)), (3, (4, 2)), (2, (4, 1)), (1, (4, 0)), (0, (6, 0))]) (stN := [(0, 0), (0, 1), (4, 0)]) (hsN := [jzA_265, jzA_266, (101, [], [0]), jgh, (8, [(4, 30), (4, 31)], []), jgh, jgh, jgh, jgh, jgh, jgh, jgh, jgh, jgh, jzA_721, (100, [], jS0), jgh, jgh, jgh, jgh, (130, [], [37, 38, 39, 40, 41, 42]), (101, [], [0, 0, 0, 0, 0, 0]), jgh, jgh, jgh, jgh, jgh, jgh, jgh, jgh, jgh, jgh, jgh, (117, [], [43, 44, 45, 46]), jgh, jgh, jgh, (100, [], (jenc (jlg 0))), jgh, jgh, jgh, jgh, jgh, jgh, (7, [(4, 47), (4, (-1)), (4, (-1))], []), jgh, jgh, (114, [], [48]), (4, [(4, 49), (1, 1)], []), (101, [], [0, 0, 0, 0, 0, 0])]) (rfl) (by simp only [List.cons.injEq, Prod.mk.injEq, and_true, true_and] <;> ((try unfold jw); (try unfold jwl); omega)) (rfl) ?_
  refine jT_xaload_n (v := (6, 0)) (pcN := 2336) jI_379_2335 rfl rfl rfl ?_
  refine jT_xiload (v := (0, 0)) (pcN := 2338) jI_379_2336 rfl rfl rfl ?_
  refine jT_xiconst (k := 3) (pcN := 2339) jI_379_2338 rfl ?_
  refine jT_xiadd (x := 0) (y := 3) (z := 3) (pcN := 2340) jI_379_2339 rfl (by decide) rfl ?_
  refine jT_adv 1 (pcN := 2341) (LN := [(5, (0, 0)), (4, (4, 3)), (3, (4, 2)), (2, (4, 1)), (1, (4, 0)), (0, (6, 0))]) (stN := [(0, x3), (0, 0), (0, 1), (4, 0)]) (hsN := jpA_3706) (c1 := 0) (s1 := 0) (c2 := 15) (s2 := 377) (by exact rfl) ?_ (by omega) (by omega)
  refine jT_ifF (a := x3) (t := 2348) (by rfl) (by rfl) (by rfl) (jw_idd (by omega) (by omega)) (by simp only [jcP] <;> omega) ?_
  refine jT_xiconst (k := 1) (pcN := 2345) jI_379_2344 rfl ?_
  refine jT_xgoto (pcN := 2349) jI_379_2345 rfl ?_
  refine jT_xaload_n (v := (4, 2)) (pcN := 2350) jI_379_2349 rfl rfl rfl ?_
  refine jT_fB [0, 2, 4, 5, 6, 7, 8, 9, 10, 11, 12, 13, 14, 30, 31, 32, 33, 34, 35, 36, 43, 44, 45, 46, 47, 48, 49] 50 (y := 354) (pcN := 2353) (dC := 6) (bc1 := 5) (bc2 := 17) (c1 := 10) (c2 := 360) (as := [(4, 0), (0, 1), (0, 0), (0, 1), (4, 2)]) (asC := [(4, 0), (0, 1), (0, 0), (0, 1), (4, 1)]) (LN := [(5, (0, 0)), (4, (4, 3)), (3, (4, 2)), (2, (4, 1)), (1, (4, 0)), (0, (6, 0))]) (stN := []) (hsC := jpA_3639) (hsD := jpA_3641) (v := (0, 0)) (st2 := [(0, 0)]) (hs2 := jpA_3707) (jA_354_925 (d := 0)) (by rfl) (by rfl) (by decide +kernel) (by rfl) (by rfl) (by omega) (by omega) (by omega) (by omega) rfl (by decide +kernel) ?_
  refine jT_xistore (v := (0, 0)) (LN := [(6, (0, 0)), (5, (0, 0)), (4, (4, 3)), (3, (4, 2)), (2, (4, 1)), (1, (4, 0)), (0, (6, 0))]) (pcN := 2355) jI_379_2353 rfl rfl rfl rfl ?_
  refine jT_xaload_n (v := (4, 1)) (pcN := 2356) jI_379_2355 rfl rfl rfl ?_
  refine jT_xaload_n (v := (6, 0)) (pcN := 2357) jI_379_2356 rfl rfl rfl ?_
  refine jT_xiload (v := (0, 0)) (pcN := 2359) jI_379_2357 rfl rfl rfl ?_
  refine jT_xiconst (k := 1) (pcN := 2360) jI_379_2359 rfl ?_
  refine jT_xiadd (x := 0) (y := 1) (z := 1) (pcN := 2361) jI_379_2360 rfl (by decide) rfl ?_
  refine jT_adv 1 (pcN := 2362) (LN := [(6, (0, 0)), (5, (0, 0)), (4, (4, 3)), (3, (4, 2)), (2, (4, 1)), (1, (4, 0)), (0, (6, 0))]) (stN := [(0, x1), (4, 1)]) (hsN := jpA_3707) (c1 := 0) (s1 := 0) (c2 := 10) (s2 := 360) (by exact rfl) ?_ (by omega) (by omega)
  refine jT_eq (LN := [(6, (0, 0)), (5, (0, 0)), (4, (4, 3)), (3, (4, 2)), (2, (4, 1)), (1, (4, 0)), (0, (6, 0))]) (stN := [(0, 1), (4, 1)]) (hsN := [jzA_265, jzA_266, (101, [], [1200]), jgh, (8, [(4, 30), (4, 31)], []), jgh, jgh, jgh, jgh, jgh, jgh, jgh, jgh, jgh, jzA_721, (100, [], jS0), jgh, jgh, jgh, jgh, (130, [], [37, 38, 39, 40, 41, 42]), (101, [], [0, 0, 0, 0, 0, 0]), jgh, jgh, jgh, jgh, jgh, jgh, jgh, jgh, jgh, jgh, jgh, (117, [], [43, 44, 45, 46]), jgh, jgh, jgh, (100, [], (jenc (jlg 0))), jgh, jgh, jgh, jgh, jgh, jgh, (7, [(4, 47), (4, 50), (4, (-1))], []), jgh, jgh, (114, [], [48]), (4, [(4, 49), (1, 1)], []), (101, [], [0, 0, 0, 0, 0, 0]), (114, [], [54]), (101, [], [0, 0, 0, 0, 0, 0]), (4, [(4, 51), (1, 1)], []), (101, [], [1, 0, 0, 0, 0, 0]), (4, [(4, 53), (1, 1)], [])]) (rfl) (by simp only [List.cons.injEq, Prod.mk.injEq, and_true, true_and] <;> ((try unfold jw); (try unfold jwl); omega)) (rfl) ?_
  refine jT_xaload_n (v := (6, 0)) (pcN := 2363) jI_379_2362 rfl rfl rfl ?_
  refine jT_xiload (v := (0, 0)) (pcN := 2365) jI_379_2363 rfl rfl rfl ?_
  refine jT_xiconst (k := 2) (pcN := 2366) jI_379_2365 rfl ?_
  refine jT_xiadd (x := 0) (y := 2) (z := 2) (pcN := 2367) jI_379_2366 rfl (by decide) rfl ?_
  refine jT_adv 1 (pcN := 2368) (LN := [(6, (0, 0)), (5, (0, 0)), (4, (4, 3)), (3, (4, 2)), (2, (4, 1)), (1, (4, 0)), (0, (6, 0))]) (stN := [(0, x2), (0, 1), (4, 1)]) (hsN := jpA_3707) (c1 := 0) (s1 := 0) (c2 := 10) (s2 := 360) (by exact rfl) ?_ (by omega) (by omega)
  refine jT_eq (LN := [(6, (0, 0)), (5, (0, 0)), (4, (4, 3)), (3, (4, 2)), (2, (4, 1)), (1, (4, 0)), (0, (6, 0))]) (stN := [(0, 0), (0, 1), (4, 1)]) (hsN := [jzA_265, jzA_266, (101, [], [1200]), jgh, (8, [(4, 30), (4, 31)], []), jgh, jgh, jgh, jgh, jgh, jgh, jgh, jgh, jgh, jzA_721, (100, [], jS0), jgh, jgh, jgh, jgh, (130, [], [37, 38, 39, 40, 41, 42]), (101, [], [0, 0, 0, 0, 0, 0]), jgh, jgh, jgh, jgh, jgh, jgh, jgh, jgh, jgh, jgh, jgh, (117, [], [43, 44, 45, 46]), jgh, jgh, jgh, (100, [], (jenc (jlg 0))), jgh, jgh, jgh, jgh, jgh, jgh, (7, [(4, 47), (4, 50), (4, (-1))], []), jgh, jgh, (114, [], [48]), (4, [(4, 49), (1, 1)], []), (101, [], [0, 0, 0, 0, 0, 0]), (114, [], [54]), (101, [], [0, 0, 0, 0, 0, 0]), (4, [(4, 51), (1, 1)], []), (101, [], [1, 0, 0, 0, 0, 0]), (4, [(4, 53), (1, 1)], [])]) (rfl) (by simp only [List.cons.injEq, Prod.mk.injEq, and_true, true_and] <;> ((try unfold jw); (try unfold jwl); omega)) (rfl) ?_
  refine jT_xaload_n (v := (6, 0)) (pcN := 2369) jI_379_2368 rfl rfl rfl ?_
  refine jT_xiload (v := (0, 0)) (pcN := 2371) jI_379_2369 rfl rfl rfl ?_
  refine jT_xiconst (k := 3) (pcN := 2372) jI_379_2371 rfl ?_
  refine jT_xiadd (x := 0) (y := 3) (z := 3) (pcN := 2373) jI_379_2372 rfl (by decide) rfl ?_
  refine jT_adv 1 (pcN := 2374) (LN := [(6, (0, 0)), (5, (0, 0)), (4, (4, 3)), (3, (4, 2)), (2, (4, 1)), (1, (4, 0)), (0, (6, 0))]) (stN := [(0, x3), (0, 0), (0, 1), (4, 1)]) (hsN := jpA_3707) (c1 := 0) (s1 := 0) (c2 := 10) (s2 := 360) (by exact rfl) ?_ (by omega) (by omega)
  refine jT_ifF (a := x3) (t := 2381) (by rfl) (by rfl) (by rfl) (jw_idd (by omega) (by omega)) (by simp only [jcP] <;> omega) ?_
  refine jT_xiconst (k := 1) (pcN := 2378) jI_379_2377 rfl ?_
  refine jT_xgoto (pcN := 2382) jI_379_2378 rfl ?_
  refine jT_fB [1, 15, 16, 17, 18, 19, 20, 21, 22, 23, 24, 25, 26, 27, 28, 29, 37, 38, 39, 40, 41, 42] 55 (y := 279) (pcN := 2385) (dC := 8) (bc1 := 10) (bc2 := 360) (c1 := 0) (c2 := 0) (as := [(4, 1), (0, 1), (0, 0), (0, 1)]) (asC := [(4, 0), (0, 1), (0, 0), (0, 1)]) (LN := [(6, (0, 0)), (5, (0, 0)), (4, (4, 3)), (3, (4, 2)), (2, (4, 1)), (1, (4, 0)), (0, (6, 0))]) (stN := []) (hsC := jpA_1695) (hsD := jpA_3636) (v := (0, 1200)) (st2 := [(0, 1200)]) (hs2 := jpA_3708) (jA_279_928 (d := 0)) (by rfl) (by rfl) (by decide +kernel) (by rfl) (by rfl) (by omega) (by omega) (by omega) (by omega) rfl (by decide +kernel) ?_
  refine jT_xistore (v := (0, 1200)) (LN := [(7, (0, 1200)), (6, (0, 0)), (5, (0, 0)), (4, (4, 3)), (3, (4, 2)), (2, (4, 1)), (1, (4, 0)), (0, (6, 0))]) (pcN := 2387) jI_379_2385 rfl rfl rfl rfl ?_
  refine jT_xaload_n (v := (4, 1)) (pcN := 2388) jI_379_2387 rfl rfl rfl ?_
  refine jT_fR [1, 15, 16, 17, 18, 19, 20, 21, 22, 23, 24, 25, 26, 27, 28, 29] 65 (y := 186) (pcN := 2391) (dC := 0) (bc1 := 0) (bc2 := 0) (c1 := 0) (c2 := 0) (as := [(4, 1)]) (asC := [(4, 0)]) (LN := [(7, (0, 1200)), (6, (0, 0)), (5, (0, 0)), (4, (4, 3)), (3, (4, 2)), (2, (4, 1)), (1, (4, 0)), (0, (6, 0))]) (stN := []) (hsC := jpA_22) (v := (0, 0)) (st2 := [(0, 0)]) (jA_186_726 (d := 0)) (by rfl) (by rfl) (by decide +kernel) (by rfl) (by rfl) (by omega) (by omega) (by omega) (by omega) rfl ?_
  refine jT_xiload (v := (0, 0)) (pcN := 2393) jI_379_2391 rfl rfl rfl ?_
  refine jT_xicT (pcN := 2398) jI_379_2393 rfl (by decide +kernel) rfl ?_
  refine jT_xiload (v := (0, 0)) (pcN := 2400) jI_379_2398 rfl rfl rfl ?_
  refine jT_xifF (t := 2415) (pcN := 2403) jI_379_2400 rfl (by decide +kernel) rfl rfl ?_
  refine jT_xaload_n (v := (4, 2)) (pcN := 2404) jI_379_2403 rfl rfl rfl ?_
  refine jT_xiconst (k := 0) (pcN := 2405) jI_379_2404 rfl ?_
  refine jT_lald (x := 1200) (a := 2) (j := 0) (fs := []) (X := [1200]) jI_379_2405 rfl rfl rfl rfl ?_
  refine jT_eq (LN := [(7, (0, 1200)), (6, (0, 0)), (5, (0, 0)), (4, (4, 3)), (3, (4, 2)), (2, (4, 1)), (1, (4, 0)), (0, (6, 0))]) (stN := [(1, 1200)]) (hsN := jpA_3708) rfl rfl rfl ?_
  refine jT_xiload (v := (0, 1200)) (pcN := 2408) jI_379_2406 rfl rfl rfl ?_
  refine jT_xi2l (x := 1200) (z := 1200) (pcN := 2409) jI_379_2408 rfl (by decide +kernel) rfl ?_
  refine jT_lcmp (a := 1200) (b := 1200) (z := 0) (by rfl) (by rfl) (by decide +kernel) (by decide +kernel) (by decide) ?_
  refine jT_xifT (pcN := 2415) jI_379_2410 rfl (by decide +kernel) rfl ?_
  refine jT_xgoto (pcN := 3740) jI_379_2415 rfl ?_
  refine jT_xiinc (x := 0) (z := 5) (LN := [(5, (0, 5)), (7, (0, 1200)), (6, (0, 0)), (4, (4, 3)), (3, (4, 2)), (2, (4, 1)), (1, (4, 0)), (0, (6, 0))]) (pcN := 3743) jI_379_3740 rfl rfl (by decide) rfl rfl ?_
  refine jT_xgoto (pcN := 28) jI_379_3743 rfl ?_
  refine jT_xiload (v := (0, 5)) (pcN := 30) jI_379_28 rfl rfl rfl ?_
  refine jT_xaload_n (v := (6, 0)) (pcN := 31) jI_379_30 rfl rfl rfl ?_
  refine jT_adv 1 (pcN := 32) (LN := [(5, (0, 5)), (7, (0, 1200)), (6, (0, 0)), (4, (4, 3)), (3, (4, 2)), (2, (4, 1)), (1, (4, 0)), (0, (6, 0))]) (stN := [(0, 5), (0, 5)]) (hsN := jpA_3708) (c1 := 0) (s1 := 0) (c2 := 0) (s2 := 0) (by exact rfl) ?_ (by omega) (by omega)
  refine jT_xiconst (k := 5) (pcN := 33) jI_379_32 rfl ?_
  refine jT_xisub (x := 5) (y := 5) (z := 0) (pcN := 34) jI_379_33 rfl (by decide) rfl ?_
  refine jT_xicT (pcN := 3746) jI_379_34 rfl (by decide +kernel) rfl ?_
  refine jT_xiconst (k := 1) (pcN := 3747) jI_379_3746 rfl ?_
  exact jT_ret rfl (by decide) (by show 50 ≤ 65; decide) (by omega) (by omega) ⟨rfl, rfl⟩
set_option maxRecDepth 100000 in
theorem jL_30_34 {d : Nat} {x0 x1 x2 x3 x4 : Int} (h_x0 : (-2147483648) ≤ x0 ∧ x0 ≤ 2147483647) (h_x1 : 1 ≤ x1 ∧ x1 ≤ 1) (h_x2 : 1 ≤ x2 ∧ x2 ≤ 2147483647) (h_x3 : 1 ≤ x3 ∧ x3 ≤ 2147483647) (h_x4 : (-2147483648) ≤ x4 ∧ x4 ≤ 2147483647) : jT [x0, x1, x2, x3, x4] (d + 3) 379 41 2322 [(5, (0, 0)), (4, (4, 3)), (3, (4, 2)), (2, (4, 1)), (1, (4, 0)), (0, (6, 0))] [] jpA_1923 1 6 (fun k v hsN => k = 0 ∧ v = (0, 1)) := by
  refine jT_xaload_n (v := (4, 0)) (pcN := 2323) jI_379_2322 rfl rfl rfl ?_
  refine jT_xaload_n (v := (6, 0)) (pcN := 2324) jI_379_2323 rfl rfl rfl ?_
  refine jT_xiload (v := (0, 0)) (pcN := 2326) jI_379_2324 rfl rfl rfl ?_
  refine jT_xiconst (k := 1) (pcN := 2327) jI_379_2326 rfl ?_
  refine jT_xiadd (x := 0) (y := 1) (z := 1) (pcN := 2328) jI_379_2327 rfl (by decide) rfl ?_
  refine jT_adv 1 (pcN := 2329) (LN := [(5, (0, 0)), (4, (4, 3)), (3, (4, 2)), (2, (4, 1)), (1, (4, 0)), (0, (6, 0))]) (stN := [(0, x1), (4, 0)]) (hsN := jpA_1923) (c1 := 0) (s1 := 0) (c2 := 1) (s2 := 6) (by exact rfl) ?_ (by omega) (by omega)
  refine jT_eq (LN := [(5, (0, 0)), (4, (4, 3)), (3, (4, 2)), (2, (4, 1)), (1, (4, 0)), (0, (6, 0))]) (stN := [(0, 1), (4, 0)]) (hsN := [jzA_265, jzA_266, jgh, jgh, jgh, jgh, jgh, jgh, jgh, jgh, jgh, jgh, jgh, jgh, jzA_322, (100, [], jS0), jgh, jgh, jgh, jgh, jgh, jgh, jgh, jgh, jgh, jgh, jgh, jgh, jgh, jgh, jgh, (117, [], [35, 36, 37, 38]), jgh, jgh, jgh, jgh, (7, [(4, 39), (4, (-1)), (4, (-1))], []), jgh, jgh, (114, [], [40]), jgh]) (rfl) (by simp only [List.cons.injEq, Prod.mk.injEq, and_true, true_and] <;> ((try unfold jw); (try unfold jwl); omega)) (rfl) ?_
  refine jT_xaload_n (v := (6, 0)) (pcN := 2330) jI_379_2329 rfl rfl rfl ?_
  refine jT_xiload (v := (0, 0)) (pcN := 2332) jI_379_2330 rfl rfl rfl ?_
  refine jT_xiconst (k := 2) (pcN := 2333) jI_379_2332 rfl ?_
  refine jT_xiadd (x := 0) (y := 2) (z := 2) (pcN := 2334) jI_379_2333 rfl (by decide) rfl ?_
  refine jT_adv 1 (pcN := 2335) (LN := [(5, (0, 0)), (4, (4, 3)), (3, (4, 2)), (2, (4, 1)), (1, (4, 0)), (0, (6, 0))]) (stN := [(0, x2), (0, 1), (4, 0)]) (hsN := jpA_1923) (c1 := 0) (s1 := 0) (c2 := 1) (s2 := 6) (by exact rfl) ?_ (by omega) (by omega)
  refine jT_xaload_n (v := (6, 0)) (pcN := 2336) jI_379_2335 rfl rfl rfl ?_
  refine jT_xiload (v := (0, 0)) (pcN := 2338) jI_379_2336 rfl rfl rfl ?_
  refine jT_xiconst (k := 3) (pcN := 2339) jI_379_2338 rfl ?_
  refine jT_xiadd (x := 0) (y := 3) (z := 3) (pcN := 2340) jI_379_2339 rfl (by decide) rfl ?_
  refine jT_adv 1 (pcN := 2341) (LN := [(5, (0, 0)), (4, (4, 3)), (3, (4, 2)), (2, (4, 1)), (1, (4, 0)), (0, (6, 0))]) (stN := [(0, x3), (0, x2), (0, 1), (4, 0)]) (hsN := jpA_1923) (c1 := 0) (s1 := 0) (c2 := 1) (s2 := 6) (by exact rfl) ?_ (by omega) (by omega)
  refine jT_ifF (a := x3) (t := 2348) (by rfl) (by rfl) (by rfl) (jw_idd (by omega) (by omega)) (by simp only [jcP] <;> omega) ?_
  refine jT_xiconst (k := 1) (pcN := 2345) jI_379_2344 rfl ?_
  refine jT_xgoto (pcN := 2349) jI_379_2345 rfl ?_
  refine jT_xaload_n (v := (4, 2)) (pcN := 2350) jI_379_2349 rfl rfl rfl ?_
  refine jT_fR [0, 2, 4, 5, 6, 7, 8, 9, 10, 11, 12, 13, 14, 30, 31, 32, 33, 34, 35, 36, 37, 38, 39, 40] 41 (y := 354) (pcN := 2353) (dC := 2) (bc1 := 1) (bc2 := 6) (c1 := 0) (c2 := 0) (as := [(4, 0), (0, 1), (0, x2), (0, 1), (4, 2)]) (asC := [(4, 0), (0, 1), (0, x2), (0, 1), (4, 1)]) (LN := [(5, (0, 0)), (4, (4, 3)), (3, (4, 2)), (2, (4, 1)), (1, (4, 0)), (0, (6, 0))]) (stN := []) (hsC := jpA_1846) (v := (0, 1)) (st2 := [(0, 1)]) (jA_354_930 (d := 0) (by omega)) (by rfl) (by rfl) (by decide +kernel) (by rfl) (by rfl) (by omega) (by omega) (by omega) (by omega) rfl ?_
  refine jT_xistore (v := (0, 1)) (LN := [(6, (0, 1)), (5, (0, 0)), (4, (4, 3)), (3, (4, 2)), (2, (4, 1)), (1, (4, 0)), (0, (6, 0))]) (pcN := 2355) jI_379_2353 rfl rfl rfl rfl ?_
  refine jT_xaload_n (v := (4, 1)) (pcN := 2356) jI_379_2355 rfl rfl rfl ?_
  refine jT_xaload_n (v := (6, 0)) (pcN := 2357) jI_379_2356 rfl rfl rfl ?_
  refine jT_xiload (v := (0, 0)) (pcN := 2359) jI_379_2357 rfl rfl rfl ?_
  refine jT_xiconst (k := 1) (pcN := 2360) jI_379_2359 rfl ?_
  refine jT_xiadd (x := 0) (y := 1) (z := 1) (pcN := 2361) jI_379_2360 rfl (by decide) rfl ?_
  refine jT_adv 1 (pcN := 2362) (LN := [(6, (0, 1)), (5, (0, 0)), (4, (4, 3)), (3, (4, 2)), (2, (4, 1)), (1, (4, 0)), (0, (6, 0))]) (stN := [(0, x1), (4, 1)]) (hsN := jpA_1923) (c1 := 0) (s1 := 0) (c2 := 0) (s2 := 0) (by exact rfl) ?_ (by omega) (by omega)
  refine jT_eq (LN := [(6, (0, 1)), (5, (0, 0)), (4, (4, 3)), (3, (4, 2)), (2, (4, 1)), (1, (4, 0)), (0, (6, 0))]) (stN := [(0, 1), (4, 1)]) (hsN := [jzA_265, jzA_266, jgh, jgh, jgh, jgh, jgh, jgh, jgh, jgh, jgh, jgh, jgh, jgh, jzA_322, (100, [], jS0), jgh, jgh, jgh, jgh, jgh, jgh, jgh, jgh, jgh, jgh, jgh, jgh, jgh, jgh, jgh, (117, [], [35, 36, 37, 38]), jgh, jgh, jgh, jgh, (7, [(4, 39), (4, (-1)), (4, (-1))], []), jgh, jgh, (114, [], [40]), jgh]) (rfl) (by simp only [List.cons.injEq, Prod.mk.injEq, and_true, true_and] <;> ((try unfold jw); (try unfold jwl); omega)) (rfl) ?_
  refine jT_xaload_n (v := (6, 0)) (pcN := 2363) jI_379_2362 rfl rfl rfl ?_
  refine jT_xiload (v := (0, 0)) (pcN := 2365) jI_379_2363 rfl rfl rfl ?_
  refine jT_xiconst (k := 2) (pcN := 2366) jI_379_2365 rfl ?_
  refine jT_xiadd (x := 0) (y := 2) (z := 2) (pcN := 2367) jI_379_2366 rfl (by decide) rfl ?_
  refine jT_adv 1 (pcN := 2368) (LN := [(6, (0, 1)), (5, (0, 0)), (4, (4, 3)), (3, (4, 2)), (2, (4, 1)), (1, (4, 0)), (0, (6, 0))]) (stN := [(0, x2), (0, 1), (4, 1)]) (hsN := jpA_1923) (c1 := 0) (s1 := 0) (c2 := 0) (s2 := 0) (by exact rfl) ?_ (by omega) (by omega)
  refine jT_xaload_n (v := (6, 0)) (pcN := 2369) jI_379_2368 rfl rfl rfl ?_
  refine jT_xiload (v := (0, 0)) (pcN := 2371) jI_379_2369 rfl rfl rfl ?_
  refine jT_xiconst (k := 3) (pcN := 2372) jI_379_2371 rfl ?_
  refine jT_xiadd (x := 0) (y := 3) (z := 3) (pcN := 2373) jI_379_2372 rfl (by decide) rfl ?_
  refine jT_adv 1 (pcN := 2374) (LN := [(6, (0, 1)), (5, (0, 0)), (4, (4, 3)), (3, (4, 2)), (2, (4, 1)), (1, (4, 0)), (0, (6, 0))]) (stN := [(0, x3), (0, x2), (0, 1), (4, 1)]) (hsN := jpA_1923) (c1 := 0) (s1 := 0) (c2 := 0) (s2 := 0) (by exact rfl) ?_ (by omega) (by omega)
  refine jT_ifF (a := x3) (t := 2381) (by rfl) (by rfl) (by rfl) (jw_idd (by omega) (by omega)) (by simp only [jcP] <;> omega) ?_
  refine jT_xiconst (k := 1) (pcN := 2378) jI_379_2377 rfl ?_
  refine jT_xgoto (pcN := 2382) jI_379_2378 rfl ?_
  refine jT_fB [1, 15, 16, 17, 18, 19, 20, 21, 22, 23, 24, 25, 26, 27, 28, 29] 41 (y := 279) (pcN := 2385) (dC := 2) (bc1 := 0) (bc2 := 0) (c1 := 0) (c2 := 0) (as := [(4, 1), (0, 1), (0, x2), (0, 1)]) (asC := [(4, 0), (0, 1), (0, x2), (0, 1)]) (LN := [(6, (0, 1)), (5, (0, 0)), (4, (4, 3)), (3, (4, 2)), (2, (4, 1)), (1, (4, 0)), (0, (6, 0))]) (stN := []) (hsC := jpA_1519) (hsD := jpA_1820) (v := (0, 0)) (st2 := [(0, 0)]) (hs2 := jpA_1924) (jA_279_931 (d := 0) (by omega)) (by rfl) (by rfl) (by decide +kernel) (by rfl) (by rfl) (by omega) (by omega) (by omega) (by omega) rfl (by decide +kernel) ?_
  refine jT_xistore (v := (0, 0)) (LN := [(7, (0, 0)), (6, (0, 1)), (5, (0, 0)), (4, (4, 3)), (3, (4, 2)), (2, (4, 1)), (1, (4, 0)), (0, (6, 0))]) (pcN := 2387) jI_379_2385 rfl rfl rfl rfl ?_
  refine jT_xaload_n (v := (4, 1)) (pcN := 2388) jI_379_2387 rfl rfl rfl ?_
  refine jT_fR [1, 15, 16, 17, 18, 19, 20, 21, 22, 23, 24, 25, 26, 27, 28, 29] 41 (y := 186) (pcN := 2391) (dC := 0) (bc1 := 0) (bc2 := 0) (c1 := 0) (c2 := 0) (as := [(4, 1)]) (asC := [(4, 0)]) (LN := [(7, (0, 0)), (6, (0, 1)), (5, (0, 0)), (4, (4, 3)), (3, (4, 2)), (2, (4, 1)), (1, (4, 0)), (0, (6, 0))]) (stN := []) (hsC := jpA_20) (v := (0, 1)) (st2 := [(0, 1)]) (jA_186_8 (d := 0)) (by rfl) (by rfl) (by decide +kernel) (by rfl) (by rfl) (by omega) (by omega) (by omega) (by omega) rfl ?_
  refine jT_xiload (v := (0, 1)) (pcN := 2393) jI_379_2391 rfl rfl rfl ?_
  refine jT_xicT (pcN := 2398) jI_379_2393 rfl (by decide +kernel) rfl ?_
  refine jT_xiload (v := (0, 1)) (pcN := 2400) jI_379_2398 rfl rfl rfl ?_
  refine jT_xifT (pcN := 2415) jI_379_2400 rfl (by decide +kernel) rfl ?_
  refine jT_xgoto (pcN := 3740) jI_379_2415 rfl ?_
  refine jT_xiinc (x := 0) (z := 5) (LN := [(5, (0, 5)), (7, (0, 0)), (6, (0, 1)), (4, (4, 3)), (3, (4, 2)), (2, (4, 1)), (1, (4, 0)), (0, (6, 0))]) (pcN := 3743) jI_379_3740 rfl rfl (by decide) rfl rfl ?_
  refine jT_xgoto (pcN := 28) jI_379_3743 rfl ?_
  refine jT_xiload (v := (0, 5)) (pcN := 30) jI_379_28 rfl rfl rfl ?_
  refine jT_xaload_n (v := (6, 0)) (pcN := 31) jI_379_30 rfl rfl rfl ?_
  refine jT_adv 1 (pcN := 32) (LN := [(5, (0, 5)), (7, (0, 0)), (6, (0, 1)), (4, (4, 3)), (3, (4, 2)), (2, (4, 1)), (1, (4, 0)), (0, (6, 0))]) (stN := [(0, 5), (0, 5)]) (hsN := jpA_1924) (c1 := 0) (s1 := 0) (c2 := 0) (s2 := 0) (by exact rfl) ?_ (by omega) (by omega)
  refine jT_xiconst (k := 5) (pcN := 33) jI_379_32 rfl ?_
  refine jT_xisub (x := 5) (y := 5) (z := 0) (pcN := 34) jI_379_33 rfl (by decide) rfl ?_
  refine jT_xicT (pcN := 3746) jI_379_34 rfl (by decide +kernel) rfl ?_
  refine jT_xiconst (k := 1) (pcN := 3747) jI_379_3746 rfl ?_
  exact jT_ret rfl (by decide) (by show 41 ≤ 41; decide) (by omega) (by omega) ⟨rfl, rfl⟩
set_option maxRecDepth 100000 in
theorem jL_30_35 {d : Nat} {x0 x1 x2 x3 x4 : Int} (h_x0 : (-2147483648) ≤ x0 ∧ x0 ≤ 2147483647) (h_x1 : 2 ≤ x1 ∧ x1 ≤ 2) (h_x2 : (-2147483648) ≤ x2 ∧ x2 ≤ (-1)) (h_x3 : 1 ≤ x3 ∧ x3 ≤ 2147483647) (h_x4 : (-2147483648) ≤ x4 ∧ x4 ≤ 2147483647) : jT [x0, x1, x2, x3, x4] (d + 3) 379 41 2322 [(5, (0, 0)), (4, (4, 3)), (3, (4, 2)), (2, (4, 1)), (1, (4, 0)), (0, (6, 0))] [] jpA_1928 1 6 (fun k v hsN => k = 0 ∧ v = (0, 1)) := by
  refine jT_xaload_n (v := (4, 0)) (pcN := 2323) jI_379_2322 rfl rfl rfl ?_
  refine jT_xaload_n (v := (6, 0)) (pcN := 2324) jI_379_2323 rfl rfl rfl ?_
  refine jT_xiload (v := (0, 0)) (pcN := 2326) jI_379_2324 rfl rfl rfl ?_
  refine jT_xiconst (k := 1) (pcN := 2327) jI_379_2326 rfl ?_
  refine jT_xiadd (x := 0) (y := 1) (z := 1) (pcN := 2328) jI_379_2327 rfl (by decide) rfl ?_
  refine jT_adv 1 (pcN := 2329) (LN := [(5, (0, 0)), (4, (4, 3)), (3, (4, 2)), (2, (4, 1)), (1, (4, 0)), (0, (6, 0))]) (stN := [(0, x1), (4, 0)]) (hsN := jpA_1928) (c1 := 0) (s1 := 0) (c2 := 1) (s2 := 6) (by exact rfl) ?_ (by omega) (by omega)
  refine jT_eq (LN := [(5, (0, 0)), (4, (4, 3)), (3, (4, 2)), (2, (4, 1)), (1, (4, 0)), (0, (6, 0))]) (stN := [(0, 2), (4, 0)]) (hsN := [jzA_265, jzA_266, jgh, jgh, jgh, jgh, jgh, jgh, jgh, jgh, jgh, jgh, jgh, jgh, jzA_322, (100, [], jS0), jgh, jgh, jgh, jgh, jgh, jgh, jgh, jgh, jgh, jgh, jgh, jgh, jgh, jgh, jgh, (117, [], [35, 36, 37, 38]), jgh, jgh, jgh, jgh, jgh, (7, [(4, 39), (4, (-1)), (4, (-1))], []), jgh, (114, [], [40]), jgh]) (rfl) (by simp only [List.cons.injEq, Prod.mk.injEq, and_true, true_and] <;> ((try unfold jw); (try unfold jwl); omega)) (rfl) ?_
  refine jT_xaload_n (v := (6, 0)) (pcN := 2330) jI_379_2329 rfl rfl rfl ?_
  refine jT_xiload (v := (0, 0)) (pcN := 2332) jI_379_2330 rfl rfl rfl ?_
  refine jT_xiconst (k := 2) (pcN := 2333) jI_379_2332 rfl ?_
  refine jT_xiadd (x := 0) (y := 2) (z := 2) (pcN := 2334) jI_379_2333 rfl (by decide) rfl ?_
  refine jT_adv 1 (pcN := 2335) (LN := [(5, (0, 0)), (4, (4, 3)), (3, (4, 2)), (2, (4, 1)), (1, (4, 0)), (0, (6, 0))]) (stN := [(0, x2), (0, 2), (4, 0)]) (hsN := jpA_1928) (c1 := 0) (s1 := 0) (c2 := 1) (s2 := 6) (by exact rfl) ?_ (by omega) (by omega)
  refine jT_xaload_n (v := (6, 0)) (pcN := 2336) jI_379_2335 rfl rfl rfl ?_
  refine jT_xiload (v := (0, 0)) (pcN := 2338) jI_379_2336 rfl rfl rfl ?_
  refine jT_xiconst (k := 3) (pcN := 2339) jI_379_2338 rfl ?_
  refine jT_xiadd (x := 0) (y := 3) (z := 3) (pcN := 2340) jI_379_2339 rfl (by decide) rfl ?_
  refine jT_adv 1 (pcN := 2341) (LN := [(5, (0, 0)), (4, (4, 3)), (3, (4, 2)), (2, (4, 1)), (1, (4, 0)), (0, (6, 0))]) (stN := [(0, x3), (0, x2), (0, 2), (4, 0)]) (hsN := jpA_1928) (c1 := 0) (s1 := 0) (c2 := 1) (s2 := 6) (by exact rfl) ?_ (by omega) (by omega)
  refine jT_ifF (a := x3) (t := 2348) (by rfl) (by rfl) (by rfl) (jw_idd (by omega) (by omega)) (by simp only [jcP] <;> omega) ?_
  refine jT_xiconst (k := 1) (pcN := 2345) jI_379_2344 rfl ?_
  refine jT_xgoto (pcN := 2349) jI_379_2345 rfl ?_
  refine jT_xaload_n (v := (4, 2)) (pcN := 2350) jI_379_2349 rfl rfl rfl ?_
  refine jT_fR [0, 2, 4, 5, 6, 7, 8, 9, 10, 11, 12, 13, 14, 30, 31, 32, 33, 34, 35, 36, 37, 38, 39, 40] 41 (y := 354) (pcN := 2353) (dC := 2) (bc1 := 1) (bc2 := 6) (c1 := 0) (c2 := 0) (as := [(4, 0), (0, 2), (0, x2), (0, 1), (4, 2)]) (asC := [(4, 0), (0, 2), (0, x2), (0, 1), (4, 1)]) (LN := [(5, (0, 0)), (4, (4, 3)), (3, (4, 2)), (2, (4, 1)), (1, (4, 0)), (0, (6, 0))]) (stN := []) (hsC := jpA_1859) (v := (0, 1)) (st2 := [(0, 1)]) (jA_354_933 (d := 0) (by omega)) (by rfl) (by rfl) (by decide +kernel) (by rfl) (by rfl) (by omega) (by omega) (by omega) (by omega) rfl ?_
  refine jT_xistore (v := (0, 1)) (LN := [(6, (0, 1)), (5, (0, 0)), (4, (4, 3)), (3, (4, 2)), (2, (4, 1)), (1, (4, 0)), (0, (6, 0))]) (pcN := 2355) jI_379_2353 rfl rfl rfl rfl ?_
  refine jT_xaload_n (v := (4, 1)) (pcN := 2356) jI_379_2355 rfl rfl rfl ?_
  refine jT_xaload_n (v := (6, 0)) (pcN := 2357) jI_379_2356 rfl rfl rfl ?_
  refine jT_xiload (v := (0, 0)) (pcN := 2359) jI_379_2357 rfl rfl rfl ?_
  refine jT_xiconst (k := 1) (pcN := 2360) jI_379_2359 rfl ?_
  refine jT_xiadd (x := 0) (y := 1) (z := 1) (pcN := 2361) jI_379_2360 rfl (by decide) rfl ?_
  refine jT_adv 1 (pcN := 2362) (LN := [(6, (0, 1)), (5, (0, 0)), (4, (4, 3)), (3, (4, 2)), (2, (4, 1)), (1, (4, 0)), (0, (6, 0))]) (stN := [(0, x1), (4, 1)]) (hsN := jpA_1928) (c1 := 0) (s1 := 0) (c2 := 0) (s2 := 0) (by exact rfl) ?_ (by omega) (by omega)
  refine jT_eq (LN := [(6, (0, 1)), (5, (0, 0)), (4, (4, 3)), (3, (4, 2)), (2, (4, 1)), (1, (4, 0)), (0, (6, 0))]) (stN := [(0, 2), (4, 1)]) (hsN := [jzA_265, jzA_266, jgh, jgh, jgh, jgh, jgh, jgh, jgh, jgh, jgh, jgh, jgh, jgh, jzA_322, (100, [], jS0), jgh, jgh, jgh, jgh, jgh, jgh, jgh, jgh, jgh, jgh, jgh, jgh, jgh, jgh, jgh, (117, [], [35, 36, 37, 38]), jgh, jgh, jgh, jgh, jgh, (7, [(4, 39), (4, (-1)), (4, (-1))], []), jgh, (114, [], [40]), jgh]) (rfl) (by simp only [List.cons.injEq, Prod.mk.injEq, and_true, true_and] <;> ((try unfold jw); (try unfold jwl); omega)) (rfl) ?_
  refine jT_xaload_n (v := (6, 0)) (pcN := 2363) jI_379_2362 rfl rfl rfl ?_
  refine jT_xiload (v := (0, 0)) (pcN := 2365) jI_379_2363 rfl rfl rfl ?_
  refine jT_xiconst (k := 2) (pcN := 2366) jI_379_2365 rfl ?_
  refine jT_xiadd (x := 0) (y := 2) (z := 2) (pcN := 2367) jI_379_2366 rfl (by decide) rfl ?_
  refine jT_adv 1 (pcN := 2368) (LN := [(6, (0, 1)), (5, (0, 0)), (4, (4, 3)), (3, (4, 2)), (2, (4, 1)), (1, (4, 0)), (0, (6, 0))]) (stN := [(0, x2), (0, 2), (4, 1)]) (hsN := jpA_1928) (c1 := 0) (s1 := 0) (c2 := 0) (s2 := 0) (by exact rfl) ?_ (by omega) (by omega)
  refine jT_xaload_n (v := (6, 0)) (pcN := 2369) jI_379_2368 rfl rfl rfl ?_
  refine jT_xiload (v := (0, 0)) (pcN := 2371) jI_379_2369 rfl rfl rfl ?_
  refine jT_xiconst (k := 3) (pcN := 2372) jI_379_2371 rfl ?_
  refine jT_xiadd (x := 0) (y := 3) (z := 3) (pcN := 2373) jI_379_2372 rfl (by decide) rfl ?_
  refine jT_adv 1 (pcN := 2374) (LN := [(6, (0, 1)), (5, (0, 0)), (4, (4, 3)), (3, (4, 2)), (2, (4, 1)), (1, (4, 0)), (0, (6, 0))]) (stN := [(0, x3), (0, x2), (0, 2), (4, 1)]) (hsN := jpA_1928) (c1 := 0) (s1 := 0) (c2 := 0) (s2 := 0) (by exact rfl) ?_ (by omega) (by omega)
  refine jT_ifF (a := x3) (t := 2381) (by rfl) (by rfl) (by rfl) (jw_idd (by omega) (by omega)) (by simp only [jcP] <;> omega) ?_
  refine jT_xiconst (k := 1) (pcN := 2378) jI_379_2377 rfl ?_
  refine jT_xgoto (pcN := 2382) jI_379_2378 rfl ?_
  refine jT_fB [1, 15, 16, 17, 18, 19, 20, 21, 22, 23, 24, 25, 26, 27, 28, 29] 41 (y := 279) (pcN := 2385) (dC := 2) (bc1 := 0) (bc2 := 0) (c1 := 0) (c2 := 0) (as := [(4, 1), (0, 2), (0, x2), (0, 1)]) (asC := [(4, 0), (0, 2), (0, x2), (0, 1)]) (LN := [(6, (0, 1)), (5, (0, 0)), (4, (4, 3)), (3, (4, 2)), (2, (4, 1)), (1, (4, 0)), (0, (6, 0))]) (stN := []) (hsC := jpA_1519) (hsD := jpA_1820) (v := (0, 0)) (st2 := [(0, 0)]) (hs2 := jpA_1929) (jA_279_934 (d := 0) (by omega)) (by rfl) (by rfl) (by decide +kernel) (by rfl) (by rfl) (by omega) (by omega) (by omega) (by omega) rfl (by decide +kernel) ?_
  refine jT_xistore (v := (0, 0)) (LN := [(7, (0, 0)), (6, (0, 1)), (5, (0, 0)), (4, (4, 3)), (3, (4, 2)), (2, (4, 1)), (1, (4, 0)), (0, (6, 0))]) (pcN := 2387) jI_379_2385 rfl rfl rfl rfl ?_
  refine jT_xaload_n (v := (4, 1)) (pcN := 2388) jI_379_2387 rfl rfl rfl ?_
  refine jT_fR [1, 15, 16, 17, 18, 19, 20, 21, 22, 23, 24, 25, 26, 27, 28, 29] 41 (y := 186) (pcN := 2391) (dC := 0) (bc1 := 0) (bc2 := 0) (c1 := 0) (c2 := 0) (as := [(4, 1)]) (asC := [(4, 0)]) (LN := [(7, (0, 0)), (6, (0, 1)), (5, (0, 0)), (4, (4, 3)), (3, (4, 2)), (2, (4, 1)), (1, (4, 0)), (0, (6, 0))]) (stN := []) (hsC := jpA_20) (v := (0, 1)) (st2 := [(0, 1)]) (jA_186_8 (d := 0)) (by rfl) (by rfl) (by decide +kernel) (by rfl) (by rfl) (by omega) (by omega) (by omega) (by omega) rfl ?_
  refine jT_xiload (v := (0, 1)) (pcN := 2393) jI_379_2391 rfl rfl rfl ?_
  refine jT_xicT (pcN := 2398) jI_379_2393 rfl (by decide +kernel) rfl ?_
  refine jT_xiload (v := (0, 1)) (pcN := 2400) jI_379_2398 rfl rfl rfl ?_
  refine jT_xifT (pcN := 2415) jI_379_2400 rfl (by decide +kernel) rfl ?_
  refine jT_xgoto (pcN := 3740) jI_379_2415 rfl ?_
  refine jT_xiinc (x := 0) (z := 5) (LN := [(5, (0, 5)), (7, (0, 0)), (6, (0, 1)), (4, (4, 3)), (3, (4, 2)), (2, (4, 1)), (1, (4, 0)), (0, (6, 0))]) (pcN := 3743) jI_379_3740 rfl rfl (by decide) rfl rfl ?_
  refine jT_xgoto (pcN := 28) jI_379_3743 rfl ?_
  refine jT_xiload (v := (0, 5)) (pcN := 30) jI_379_28 rfl rfl rfl ?_
  refine jT_xaload_n (v := (6, 0)) (pcN := 31) jI_379_30 rfl rfl rfl ?_
  refine jT_adv 1 (pcN := 32) (LN := [(5, (0, 5)), (7, (0, 0)), (6, (0, 1)), (4, (4, 3)), (3, (4, 2)), (2, (4, 1)), (1, (4, 0)), (0, (6, 0))]) (stN := [(0, 5), (0, 5)]) (hsN := jpA_1929) (c1 := 0) (s1 := 0) (c2 := 0) (s2 := 0) (by exact rfl) ?_ (by omega) (by omega)
  refine jT_xiconst (k := 5) (pcN := 33) jI_379_32 rfl ?_
  refine jT_xisub (x := 5) (y := 5) (z := 0) (pcN := 34) jI_379_33 rfl (by decide) rfl ?_
  refine jT_xicT (pcN := 3746) jI_379_34 rfl (by decide +kernel) rfl ?_
  refine jT_xiconst (k := 1) (pcN := 3747) jI_379_3746 rfl ?_
  exact jT_ret rfl (by decide) (by show 41 ≤ 41; decide) (by omega) (by omega) ⟨rfl, rfl⟩
set_option maxRecDepth 100000 in
theorem jL_30_36 {d : Nat} {x0 x1 x2 x3 x4 : Int} (h_x0 : (-2147483648) ≤ x0 ∧ x0 ≤ 2147483647) (h_x1 : 2 ≤ x1 ∧ x1 ≤ 2) (h_x2 : 0 ≤ x2 ∧ x2 ≤ 0) (h_x3 : 1 ≤ x3 ∧ x3 ≤ 2147483647) (h_x4 : (-2147483648) ≤ x4 ∧ x4 ≤ 2147483647) : jT [x0, x1, x2, x3, x4] (d + 9) 379 50 2322 [(5, (0, 0)), (4, (4, 3)), (3, (4, 2)), (2, (4, 1)), (1, (4, 0)), (0, (6, 0))] [] jpA_3709 15 377 (fun k v hsN => k = 0 ∧ v = (0, 1)) := by
  refine jT_xaload_n (v := (4, 0)) (pcN := 2323) jI_379_2322 rfl rfl rfl ?_
  refine jT_xaload_n (v := (6, 0)) (pcN := 2324) jI_379_2323 rfl rfl rfl ?_
  refine jT_xiload (v := (0, 0)) (pcN := 2326) jI_379_2324 rfl rfl rfl ?_
  refine jT_xiconst (k := 1) (pcN := 2327) jI_379_2326 rfl ?_
  refine jT_xiadd (x := 0) (y := 1) (z := 1) (pcN := 2328) jI_379_2327 rfl (by decide) rfl ?_
  refine jT_adv 1 (pcN := 2329) (LN := [(5, (0, 0)), (4, (4, 3)), (3, (4, 2)), (2, (4, 1)), (1, (4, 0)), (0, (6, 0))]) (stN := [(0, x1), (4, 0)]) (hsN := jpA_3709) (c1 := 0) (s1 := 0) (c2 := 15) (s2 := 377) (by exact rfl) ?_ (by omega) (by omega)
  refine jT_eq (LN := [(5, (0, 0)), (4, (4, 3)), (3, (4, 2)), (2, (4, 1)), (1, (4, 0)), (0, (6, 0))]) (stN := [(0, 2), (4, 0)]) (hsN := [jzA_265, jzA_266, (101, [], [0]), jgh, (8, [(4, 30), (4, 31)], []), jgh, jgh, jgh, jgh, jgh, jgh, jgh, jgh, jgh, jzA_721, (100, [], jS0), jgh, jgh, jgh, jgh, (130, [], [37, 38, 39, 40, 41, 42]), (101, [], [0, 0, 0, 0, 0, 0]), jgh, jgh, jgh, jgh, jgh, jgh, jgh, jgh, jgh, jgh, jgh, (117, [], [43, 44, 45, 46]), jgh, jgh, jgh, (100, [], (jenc (jlg 0))), jgh, jgh, jgh, jgh, jgh, jgh, jgh, (7, [(4, 47), (4, (-1)), (4, (-1))], []), jgh, (114, [], [48]), (4, [(4, 49), (1, 1)], []), (101, [], [0, 0, 0, 0, 0, 0])]) (rfl) (by simp only [List.cons.injEq, Prod.mk.injEq, and_true, true_and] <;> ((try unfold jw); (try unfold jwl); omega)) (rfl) ?_
  refine jT_xaload_n (v := (6, 0)) (pcN := 2330) jI_379_2329 rfl rfl rfl ?_
  refine jT_xiload (v := (0, 0)) (pcN := 2332) jI_379_2330 rfl rfl rfl ?_
  refine jT_xiconst (k := 2) (pcN := 2333) jI_379_2332 rfl ?_
  refine jT_xiadd (x := 0) (y := 2) (z := 2) (pcN := 2334) jI_379_2333 rfl (by decide) rfl ?_
  refine jT_adv 1 (pcN := 2335) (LN := [(5, (0, 0)), (4, (4, 3)), (3, (4, 2)), (2, (4, 1)), (1, (4, 0)), (0, (6, 0))]) (stN := [(0, x2), (0, 2), (4, 0)]) (hsN := jpA_3709) (c1 := 0) (s1 := 0) (c2 := 15) (s2 := 377) (by exact rfl) ?_ (by omega) (by omega)
  refine jT_eq (LN := [(5, (0, 0)), (4, (4, 3)), (3, (4, 2)), (2, (4, 1)), (1, (4, 0)), (0, (6, 0))]) (stN := [(0, 0), (0, 2), (4, 0)]) (hsN := [jzA_265, jzA_266, (101, [], [0]), jgh, (8, [(4, 30), (4, 31)], []), jgh, jgh, jgh, jgh, jgh, jgh, jgh, jgh, jgh, jzA_721, (100, [], jS0), jgh, jgh, jgh, jgh, (130, [], [37, 38, 39, 40, 41, 42]), (101, [], [0, 0, 0, 0, 0, 0]), jgh, jgh, jgh, jgh, jgh, jgh, jgh, jgh, jgh, jgh, jgh, (117, [], [43, 44, 45, 46]), jgh, jgh, jgh, (100, [], (jenc (jlg 0))), jgh, jgh, jgh, jgh, jgh, jgh, jgh, (7, [(4, 47), (4, (-1)), (4, (-1))], []), jgh, (114, [], [48]), (4, [(4, 49), (1, 1)], []), (101, [], [0, 0, 0, 0, 0, 0])]) (rfl) (by simp only [List.cons.injEq, Prod.mk.injEq, and_true, true_and] <;> ((try unfold jw); (try unfold jwl); omega)) (rfl) ?_
  refine jT_xaload_n (v := (6, 0)) (pcN := 2336) jI_379_2335 rfl rfl rfl ?_
  refine jT_xiload (v := (0, 0)) (pcN := 2338) jI_379_2336 rfl rfl rfl ?_
  refine jT_xiconst (k := 3) (pcN := 2339) jI_379_2338 rfl ?_
  refine jT_xiadd (x := 0) (y := 3) (z := 3) (pcN := 2340) jI_379_2339 rfl (by decide) rfl ?_
  refine jT_adv 1 (pcN := 2341) (LN := [(5, (0, 0)), (4, (4, 3)), (3, (4, 2)), (2, (4, 1)), (1, (4, 0)), (0, (6, 0))]) (stN := [(0, x3), (0, 0), (0, 2), (4, 0)]) (hsN := jpA_3709) (c1 := 0) (s1 := 0) (c2 := 15) (s2 := 377) (by exact rfl) ?_ (by omega) (by omega)
  refine jT_ifF (a := x3) (t := 2348) (by rfl) (by rfl) (by rfl) (jw_idd (by omega) (by omega)) (by simp only [jcP] <;> omega) ?_
  refine jT_xiconst (k := 1) (pcN := 2345) jI_379_2344 rfl ?_
  refine jT_xgoto (pcN := 2349) jI_379_2345 rfl ?_
  refine jT_xaload_n (v := (4, 2)) (pcN := 2350) jI_379_2349 rfl rfl rfl ?_
  refine jT_fB [0, 2, 4, 5, 6, 7, 8, 9, 10, 11, 12, 13, 14, 30, 31, 32, 33, 34, 35, 36, 43, 44, 45, 46, 47, 48, 49] 50 (y := 354) (pcN := 2353) (dC := 6) (bc1 := 5) (bc2 := 17) (c1 := 10) (c2 := 360) (as := [(4, 0), (0, 2), (0, 0), (0, 1), (4, 2)]) (asC := [(4, 0), (0, 2), (0, 0), (0, 1), (4, 1)]) (LN := [(5, (0, 0)), (4, (4, 3)), (3, (4, 2)), (2, (4, 1)), (1, (4, 0)), (0, (6, 0))]) (stN := []) (hsC := jpA_3644) (hsD := jpA_3646) (v := (0, 0)) (st2 := [(0, 0)]) (hs2 := jpA_3710) (jA_354_936 (d := 0)) (by rfl) (by rfl) (by decide +kernel) (by rfl) (by rfl) (by omega) (by omega) (by omega) (by omega) rfl (by decide +kernel) ?_
  refine jT_xistore (v := (0, 0)) (LN := [(6, (0, 0)), (5, (0, 0)), (4, (4, 3)), (3, (4, 2)), (2, (4, 1)), (1, (4, 0)), (0, (6, 0))]) (pcN := 2355) jI_379_2353 rfl rfl rfl rfl ?_
  refine jT_xaload_n (v := (4, 1)) (pcN := 2356) jI_379_2355 rfl rfl rfl ?_
  refine jT_xaload_n (v := (6, 0)) (pcN := 2357) jI_379_2356 rfl rfl rfl ?_
  refine jT_xiload (v := (0, 0)) (pcN := 2359) jI_379_2357 rfl rfl rfl ?_
  refine jT_xiconst (k := 1) (pcN := 2360) jI_379_2359 rfl ?_
  refine jT_xiadd (x := 0) (y := 1) (z := 1) (pcN := 2361) jI_379_2360 rfl (by decide) rfl ?_
  refine jT_adv 1 (pcN := 2362) (LN := [(6, (0, 0)), (5, (0, 0)), (4, (4, 3)), (3, (4, 2)), (2, (4, 1)), (1, (4, 0)), (0, (6, 0))]) (stN := [(0, x1), (4, 1)]) (hsN := jpA_3710) (c1 := 0) (s1 := 0) (c2 := 10) (s2 := 360) (by exact rfl) ?_ (by omega) (by omega)
  refine jT_eq (LN := [(6, (0, 0)), (5, (0, 0)), (4, (4, 3)), (3, (4, 2)), (2, (4, 1)), (1, (4, 0)), (0, (6, 0))]) (stN := [(0, 2), (4, 1)]) (hsN := [jzA_265, jzA_266, (101, [], [1200]), jgh, (8, [(4, 30), (4, 31)], []), jgh, jgh, jgh, jgh, jgh, jgh, jgh, jgh, jgh, jzA_721, (100, [], jS0), jgh, jgh, jgh, jgh, (130, [], [37, 38, 39, 40, 41, 42]), (101, [], [0, 0, 0, 0, 0, 0]), jgh, jgh, jgh, jgh, jgh, jgh, jgh, jgh, jgh, jgh, jgh, (117, [], [43, 44, 45, 46]), jgh, jgh, jgh, (100, [], (jenc (jlg 0))), jgh, jgh, jgh, jgh, jgh, jgh, jgh, (7, [(4, 47), (4, 50), (4, (-1))], []), jgh, (114, [], [48]), (4, [(4, 49), (1, 1)], []), (101, [], [0, 0, 0, 0, 0, 0]), (114, [], [54]), (101, [], [0, 0, 0, 0, 0, 0]), (4, [(4, 51), (1, 1)], []), (101, [], [1, 0, 0, 0, 0, 0]), (4, [(4, 53), (1, 1)], [])]) (rfl) (by simp only [List.cons.injEq, Prod.mk.injEq, and_true, true_and] <;> ((try unfold jw); (try unfold jwl); omega)) (rfl) ?_
  refine jT_xaload_n (v := (6, 0)) (pcN := 2363) jI_379_2362 rfl rfl rfl ?_
  refine jT_xiload (v := (0, 0)) (pcN := 2365) jI_379_2363 rfl rfl rfl ?_
  refine jT_xiconst (k := 2) (pcN := 2366) jI_379_2365 rfl ?_
  refine jT_xiadd (x := 0) (y := 2) (z := 2) (pcN := 2367) jI_379_2366 rfl (by decide) rfl ?_
  refine jT_adv 1 (pcN := 2368) (LN := [(6, (0, 0)), (5, (0, 0)), (4, (4, 3)), (3, (4, 2)), (2, (4, 1)), (1, (4, 0)), (0, (6, 0))]) (stN := [(0, x2), (0, 2), (4, 1)]) (hsN := jpA_3710) (c1 := 0) (s1 := 0) (c2 := 10) (s2 := 360) (by exact rfl) ?_ (by omega) (by omega)
  refine jT_eq (LN := [(6, (0, 0)), (5, (0, 0)), (4, (4, 3)), (3, (4, 2)), (2, (4, 1)), (1, (4, 0)), (0, (6, 0))]) (stN := [(0, 0), (0, 2), (4, 1)]) (hsN := [jzA_265, jzA_266, (101, [], [1200]), jgh, (8, [(4, 30), (4, 31)], []), jgh, jgh, jgh, jgh, jgh, jgh, jgh, jgh, jgh, jzA_721, (100, [], jS0), jgh, jgh, jgh, jgh, (130, [], [37, 38, 39, 40, 41, 42]), (101, [], [0, 0, 0, 0, 0, 0]), jgh, jgh, jgh, jgh, jgh, jgh, jgh, jgh, jgh, jgh, jgh, (117, [], [43, 44, 45, 46]), jgh, jgh, jgh, (100, [], (jenc (jlg 0))), jgh, jgh, jgh, jgh, jgh, jgh, jgh, (7, [(4, 47), (4, 50), (4, (-1))], []), jgh, (114, [], [48]), (4, [(4, 49), (1, 1)], []), (101, [], [0, 0, 0, 0, 0, 0]), (114, [], [54]), (101, [], [0, 0, 0, 0, 0, 0]), (4, [(4, 51), (1, 1)], []), (101, [], [1, 0, 0, 0, 0, 0]), (4, [(4, 53), (1, 1)], [])]) (rfl) (by simp only [List.cons.injEq, Prod.mk.injEq, and_true, true_and] <;> ((try unfold jw); (try unfold jwl); omega)) (rfl) ?_
  refine jT_xaload_n (v := (6, 0)) (pcN := 2369) jI_379_2368 rfl rfl rfl ?_
  refine jT_xiload (v := (0, 0)) (pcN := 2371) jI_379_2369 rfl rfl rfl ?_
  refine jT_xiconst (k := 3) (pcN := 2372) jI_379_2371 rfl ?_
  refine jT_xiadd (x := 0) (y := 3) (z := 3) (pcN := 2373) jI_379_2372 rfl (by decide) rfl ?_
  refine jT_adv 1 (pcN := 2374) (LN := [(6, (0, 0)), (5, (0, 0)), (4, (4, 3)), (3, (4, 2)), (2, (4, 1)), (1, (4, 0)), (0, (6, 0))]) (stN := [(0, x3), (0, 0), (0, 2), (4, 1)]) (hsN := jpA_3710) (c1 := 0) (s1 := 0) (c2 := 10) (s2 := 360) (by exact rfl) ?_ (by omega) (by omega)
  refine jT_ifF (a := x3) (t := 2381) (by rfl) (by rfl) (by rfl) (jw_idd (by omega) (by omega)) (by simp only [jcP] <;> omega) ?_
  refine jT_xiconst (k := 1) (pcN := 2378) jI_379_2377 rfl ?_
  refine jT_xgoto (pcN := 2382) jI_379_2378 rfl ?_
  refine jT_fB [1, 15, 16, 17, 18, 19, 20, 21, 22, 23, 24, 25, 26, 27, 28, 29, 37, 38, 39, 40, 41, 42] 55 (y := 279) (pcN := 2385) (dC := 8) (bc1 := 10) (bc2 := 360) (c1 := 0) (c2 := 0) (as := [(4, 1), (0, 2), (0, 0), (0, 1)]) (asC := [(4, 0), (0, 2), (0, 0), (0, 1)]) (LN := [(6, (0, 0)), (5, (0, 0)), (4, (4, 3)), (3, (4, 2)), (2, (4, 1)), (1, (4, 0)), (0, (6, 0))]) (stN := []) (hsC := jpA_1695) (hsD := jpA_3636) (v := (0, 1200)) (st2 := [(0, 1200)]) (hs2 := jpA_3711) (jA_279_939 (d := 0)) (by rfl) (by rfl) (by decide +kernel) (by rfl) (by rfl) (by omega) (by omega) (by omega) (by omega) rfl (by decide +kernel) ?_
  refine jT_xistore (v := (0, 1200)) (LN := [(7, (0, 1200)), (6, (0, 0)), (5, (0, 0)), (4, (4, 3)), (3, (4, 2)), (2, (4, 1)), (1, (4, 0)), (0, (6, 0))]) (pcN := 2387) jI_379_2385 rfl rfl rfl rfl ?_
  refine jT_xaload_n (v := (4, 1)) (pcN := 2388) jI_379_2387 rfl rfl rfl ?_
  refine jT_fR [1, 15, 16, 17, 18, 19, 20, 21, 22, 23, 24, 25, 26, 27, 28, 29] 65 (y := 186) (pcN := 2391) (dC := 0) (bc1 := 0) (bc2 := 0) (c1 := 0) (c2 := 0) (as := [(4, 1)]) (asC := [(4, 0)]) (LN := [(7, (0, 1200)), (6, (0, 0)), (5, (0, 0)), (4, (4, 3)), (3, (4, 2)), (2, (4, 1)), (1, (4, 0)), (0, (6, 0))]) (stN := []) (hsC := jpA_22) (v := (0, 0)) (st2 := [(0, 0)]) (jA_186_726 (d := 0)) (by rfl) (by rfl) (by decide +kernel) (by rfl) (by rfl) (by omega) (by omega) (by omega) (by omega) rfl ?_
  refine jT_xiload (v := (0, 0)) (pcN := 2393) jI_379_2391 rfl rfl rfl ?_
  refine jT_xicT (pcN := 2398) jI_379_2393 rfl (by decide +kernel) rfl ?_
  refine jT_xiload (v := (0, 0)) (pcN := 2400) jI_379_2398 rfl rfl rfl ?_
  refine jT_xifF (t := 2415) (pcN := 2403) jI_379_2400 rfl (by decide +kernel) rfl rfl ?_
  refine jT_xaload_n (v := (4, 2)) (pcN := 2404) jI_379_2403 rfl rfl rfl ?_
  refine jT_xiconst (k := 0) (pcN := 2405) jI_379_2404 rfl ?_
  refine jT_lald (x := 1200) (a := 2) (j := 0) (fs := []) (X := [1200]) jI_379_2405 rfl rfl rfl rfl ?_
  refine jT_eq (LN := [(7, (0, 1200)), (6, (0, 0)), (5, (0, 0)), (4, (4, 3)), (3, (4, 2)), (2, (4, 1)), (1, (4, 0)), (0, (6, 0))]) (stN := [(1, 1200)]) (hsN := jpA_3711) rfl rfl rfl ?_
  refine jT_xiload (v := (0, 1200)) (pcN := 2408) jI_379_2406 rfl rfl rfl ?_
  refine jT_xi2l (x := 1200) (z := 1200) (pcN := 2409) jI_379_2408 rfl (by decide +kernel) rfl ?_
  refine jT_lcmp (a := 1200) (b := 1200) (z := 0) (by rfl) (by rfl) (by decide +kernel) (by decide +kernel) (by decide) ?_
  refine jT_xifT (pcN := 2415) jI_379_2410 rfl (by decide +kernel) rfl ?_
  refine jT_xgoto (pcN := 3740) jI_379_2415 rfl ?_
  refine jT_xiinc (x := 0) (z := 5) (LN := [(5, (0, 5)), (7, (0, 1200)), (6, (0, 0)), (4, (4, 3)), (3, (4, 2)), (2, (4, 1)), (1, (4, 0)), (0, (6, 0))]) (pcN := 3743) jI_379_3740 rfl rfl (by decide) rfl rfl ?_
  refine jT_xgoto (pcN := 28) jI_379_3743 rfl ?_
  refine jT_xiload (v := (0, 5)) (pcN := 30) jI_379_28 rfl rfl rfl ?_
  refine jT_xaload_n (v := (6, 0)) (pcN := 31) jI_379_30 rfl rfl rfl ?_
  refine jT_adv 1 (pcN := 32) (LN := [(5, (0, 5)), (7, (0, 1200)), (6, (0, 0)), (4, (4, 3)), (3, (4, 2)), (2, (4, 1)), (1, (4, 0)), (0, (6, 0))]) (stN := [(0, 5), (0, 5)]) (hsN := jpA_3711) (c1 := 0) (s1 := 0) (c2 := 0) (s2 := 0) (by exact rfl) ?_ (by omega) (by omega)
  refine jT_xiconst (k := 5) (pcN := 33) jI_379_32 rfl ?_
  refine jT_xisub (x := 5) (y := 5) (z := 0) (pcN := 34) jI_379_33 rfl (by decide) rfl ?_
  refine jT_xicT (pcN := 3746) jI_379_34 rfl (by decide +kernel) rfl ?_
  refine jT_xiconst (k := 1) (pcN := 3747) jI_379_3746 rfl ?_
  exact jT_ret rfl (by decide) (by show 50 ≤ 65; decide) (by omega) (by omega) ⟨rfl, rfl⟩
set_option maxRecDepth 100000 in
theorem jL_30_37 {d : Nat} {x0 x1 x2 x3 x4 : Int} (h_x0 : (-2147483648) ≤ x0 ∧ x0 ≤ 2147483647) (h_x1 : 2 ≤ x1 ∧ x1 ≤ 2) (h_x2 : 1 ≤ x2 ∧ x2 ≤ 2147483647) (h_x3 : 1 ≤ x3 ∧ x3 ≤ 2147483647) (h_x4 : (-2147483648) ≤ x4 ∧ x4 ≤ 2147483647) : jT [x0, x1, x2, x3, x4] (d + 3) 379 41 2322 [(5, (0, 0)), (4, (4, 3)), (3, (4, 2)), (2, (4, 1)), (1, (4, 0)), (0, (6, 0))] [] jpA_1928 1 6 (fun k v hsN => k = 0 ∧ v = (0, 1)) := by
  refine jT_xaload_n (v := (4, 0)) (pcN := 2323) jI_379_2322 rfl rfl rfl ?_
  refine jT_xaload_n (v := (6, 0)) (pcN := 2324) jI_379_2323 rfl rfl rfl ?_
  refine jT_xiload (v := (0, 0)) (pcN := 2326) jI_379_2324 rfl rfl rfl ?_
  refine jT_xiconst (k := 1) (pcN := 2327) jI_379_2326 rfl ?_
  refine jT_xiadd (x := 0) (y := 1) (z := 1) (pcN := 2328) jI_379_2327 rfl (by decide) rfl ?_
  refine jT_adv 1 (pcN := 2329) (LN := [(5, (0, 0)), (4, (4, 3)), (3, (4, 2)), (2, (4, 1)), (1, (4, 0)), (0, (6, 0))]) (stN := [(0, x1), (4, 0)]) (hsN := jpA_1928) (c1 := 0) (s1 := 0) (c2 := 1) (s2 := 6) (by exact rfl) ?_ (by omega) (by omega)
  refine jT_eq (LN := [(5, (0, 0)), (4, (4, 3)), (3, (4, 2)), (2, (4, 1)), (1, (4, 0)), (0, (6, 0))]) (stN := [(0, 2), (4, 0)]) (hsN := [jzA_265, jzA_266, jgh, jgh, jgh, jgh, jgh, jgh, jgh, jgh, jgh, jgh, jgh, jgh, jzA_322, (100, [], jS0), jgh, jgh, jgh, jgh, jgh, jgh, jgh, jgh, jgh, jgh, jgh, jgh, jgh, jgh, jgh, (117, [], [35, 36, 37, 38]), jgh, jgh, jgh, jgh, jgh, (7, [(4, 39), (4, (-1)), (4, (-1))], []), jgh, (114, [], [40]), jgh]) (rfl) (by simp only [List.cons.injEq, Prod.mk.injEq, and_true, true_and] <;> ((try unfold jw); (try unfold jwl); omega)) (rfl) ?_
  refine jT_xaload_n (v := (6, 0)) (pcN := 2330) jI_379_2329 rfl rfl rfl ?_
  refine jT_xiload (v := (0, 0)) (pcN := 2332) jI_379_2330 rfl rfl rfl ?_
  refine jT_xiconst (k := 2) (pcN := 2333) jI_379_2332 rfl ?_
  refine jT_xiadd (x := 0) (y := 2) (z := 2) (pcN := 2334) jI_379_2333 rfl (by decide) rfl ?_
  refine jT_adv 1 (pcN := 2335) (LN := [(5, (0, 0)), (4, (4, 3)), (3, (4, 2)), (2, (4, 1)), (1, (4, 0)), (0, (6, 0))]) (stN := [(0, x2), (0, 2), (4, 0)]) (hsN := jpA_1928) (c1 := 0) (s1 := 0) (c2 := 1) (s2 := 6) (by exact rfl) ?_ (by omega) (by omega)
  refine jT_xaload_n (v := (6, 0)) (pcN := 2336) jI_379_2335 rfl rfl rfl ?_
  refine jT_xiload (v := (0, 0)) (pcN := 2338) jI_379_2336 rfl rfl rfl ?_
  refine jT_xiconst (k := 3) (pcN := 2339) jI_379_2338 rfl ?_
  refine jT_xiadd (x := 0) (y := 3) (z := 3) (pcN := 2340) jI_379_2339 rfl (by decide) rfl ?_
  refine jT_adv 1 (pcN := 2341) (LN := [(5, (0, 0)), (4, (4, 3)), (3, (4, 2)), (2, (4, 1)), (1, (4, 0)), (0, (6, 0))]) (stN := [(0, x3), (0, x2), (0, 2), (4, 0)]) (hsN := jpA_1928) (c1 := 0) (s1 := 0) (c2 := 1) (s2 := 6) (by exact rfl) ?_ (by omega) (by omega)
  refine jT_ifF (a := x3) (t := 2348) (by rfl) (by rfl) (by rfl) (jw_idd (by omega) (by omega)) (by simp only [jcP] <;> omega) ?_
  refine jT_xiconst (k := 1) (pcN := 2345) jI_379_2344 rfl ?_
  refine jT_xgoto (pcN := 2349) jI_379_2345 rfl ?_
  refine jT_xaload_n (v := (4, 2)) (pcN := 2350) jI_379_2349 rfl rfl rfl ?_
  refine jT_fR [0, 2, 4, 5, 6, 7, 8, 9, 10, 11, 12, 13, 14, 30, 31, 32, 33, 34, 35, 36, 37, 38, 39, 40] 41 (y := 354) (pcN := 2353) (dC := 2) (bc1 := 1) (bc2 := 6) (c1 := 0) (c2 := 0) (as := [(4, 0), (0, 2), (0, x2), (0, 1), (4, 2)]) (asC := [(4, 0), (0, 2), (0, x2), (0, 1), (4, 1)]) (LN := [(5, (0, 0)), (4, (4, 3)), (3, (4, 2)), (2, (4, 1)), (1, (4, 0)), (0, (6, 0))]) (stN := []) (hsC := jpA_1859) (v := (0, 1)) (st2 := [(0, 1)]) (jA_354_941 (d := 0) (by omega)) (by rfl) (by rfl) (by decide +kernel) (by rfl) (by rfl) (by omega) (by omega) (by omega) (by omega) rfl ?_
  refine jT_xistore (v := (0, 1)) (LN := [(6, (0, 1)), (5, (0, 0)), (4, (4, 3)), (3, (4, 2)), (2, (4, 1)), (1, (4, 0)), (0, (6, 0))]) (pcN := 2355) jI_379_2353 rfl rfl rfl rfl ?_
  refine jT_xaload_n (v := (4, 1)) (pcN := 2356) jI_379_2355 rfl rfl rfl ?_
  refine jT_xaload_n (v := (6, 0)) (pcN := 2357) jI_379_2356 rfl rfl rfl ?_
  refine jT_xiload (v := (0, 0)) (pcN := 2359) jI_379_2357 rfl rfl rfl ?_
  refine jT_xiconst (k := 1) (pcN := 2360) jI_379_2359 rfl ?_
  refine jT_xiadd (x := 0) (y := 1) (z := 1) (pcN := 2361) jI_379_2360 rfl (by decide) rfl ?_
  refine jT_adv 1 (pcN := 2362) (LN := [(6, (0, 1)), (5, (0, 0)), (4, (4, 3)), (3, (4, 2)), (2, (4, 1)), (1, (4, 0)), (0, (6, 0))]) (stN := [(0, x1), (4, 1)]) (hsN := jpA_1928) (c1 := 0) (s1 := 0) (c2 := 0) (s2 := 0) (by exact rfl) ?_ (by omega) (by omega)
  refine jT_eq (LN := [(6, (0, 1)), (5, (0, 0)), (4, (4, 3)), (3, (4, 2)), (2, (4, 1)), (1, (4, 0)), (0, (6, 0))]) (stN := [(0, 2), (4, 1)]) (hsN := [jzA_265, jzA_266, jgh, jgh, jgh, jgh, jgh, jgh, jgh, jgh, jgh, jgh, jgh, jgh, jzA_322, (100, [], jS0), jgh, jgh, jgh, jgh, jgh, jgh, jgh, jgh, jgh, jgh, jgh, jgh, jgh, jgh, jgh, (117, [], [35, 36, 37, 38]), jgh, jgh, jgh, jgh, jgh, (7, [(4, 39), (4, (-1)), (4, (-1))], []), jgh, (114, [], [40]), jgh]) (rfl) (by simp only [List.cons.injEq, Prod.mk.injEq, and_true, true_and] <;> ((try unfold jw); (try unfold jwl); omega)) (rfl) ?_
  refine jT_xaload_n (v := (6, 0)) (pcN := 2363) jI_379_2362 rfl rfl rfl ?_
  refine jT_xiload (v := (0, 0)) (pcN := 2365) jI_379_2363 rfl rfl rfl ?_
  refine jT_xiconst (k := 2) (pcN := 2366) jI_379_2365 rfl ?_
  refine jT_xiadd (x := 0) (y := 2) (z := 2) (pcN := 2367) jI_379_2366 rfl (by decide) rfl ?_
  refine jT_adv 1 (pcN := 2368) (LN := [(6, (0, 1)), (5, (0, 0)), (4, (4, 3)), (3, (4, 2)), (2, (4, 1)), (1, (4, 0)), (0, (6, 0))]) (stN := [(0, x2), (0, 2), (4, 1)]) (hsN := jpA_1928) (c1 := 0) (s1 := 0) (c2 := 0) (s2 := 0) (by exact rfl) ?_ (by omega) (by omega)
  refine jT_xaload_n (v := (6, 0)) (pcN := 2369) jI_379_2368 rfl rfl rfl ?_
  refine jT_xiload (v := (0, 0)) (pcN := 2371) jI_379_2369 rfl rfl rfl ?_
  refine jT_xiconst (k := 3) (pcN := 2372) jI_379_2371 rfl ?_
  refine jT_xiadd (x := 0) (y := 3) (z := 3) (pcN := 2373) jI_379_2372 rfl (by decide) rfl ?_
  refine jT_adv 1 (pcN := 2374) (LN := [(6, (0, 1)), (5, (0, 0)), (4, (4, 3)), (3, (4, 2)), (2, (4, 1)), (1, (4, 0)), (0, (6, 0))]) (stN := [(0, x3), (0, x2), (0, 2), (4, 1)]) (hsN := jpA_1928) (c1 := 0) (s1 := 0) (c2 := 0) (s2 := 0) (by exact rfl) ?_ (by omega) (by omega)
  refine jT_ifF (a := x3) (t := 2381) (by rfl) (by rfl) (by rfl) (jw_idd (by omega) (by omega)) (by simp only [jcP] <;> omega) ?_
  refine jT_xiconst (k := 1) (pcN := 2378) jI_379_2377 rfl ?_
  refine jT_xgoto (pcN := 2382) jI_379_2378 rfl ?_
  refine jT_fB [1, 15, 16, 17, 18, 19, 20, 21, 22, 23, 24, 25, 26, 27, 28, 29] 41 (y := 279) (pcN := 2385) (dC := 2) (bc1 := 0) (bc2 := 0) (c1 := 0) (c2 := 0) (as := [(4, 1), (0, 2), (0, x2), (0, 1)]) (asC := [(4, 0), (0, 2), (0, x2), (0, 1)]) (LN := [(6, (0, 1)), (5, (0, 0)), (4, (4, 3)), (3, (4, 2)), (2, (4, 1)), (1, (4, 0)), (0, (6, 0))]) (stN := []) (hsC := jpA_1519) (hsD := jpA_1820) (v := (0, 0)) (st2 := [(0, 0)]) (hs2 := jpA_1929) (jA_279_942 (d := 0) (by omega)) (by rfl) (by rfl) (by decide +kernel) (by rfl) (by rfl) (by omega) (by omega) (by omega) (by omega) rfl (by decide +kernel) ?_
  refine jT_xistore (v := (0, 0)) (LN := [(7, (0, 0)), (6, (0, 1)), (5, (0, 0)), (4, (4, 3)), (3, (4, 2)), (2, (4, 1)), (1, (4, 0)), (0, (6, 0))]) (pcN := 2387) jI_379_2385 rfl rfl rfl rfl ?_
  refine jT_xaload_n (v := (4, 1)) (pcN := 2388) jI_379_2387 rfl rfl rfl ?_
  refine jT_fR [1, 15, 16, 17, 18, 19, 20, 21, 22, 23, 24, 25, 26, 27, 28, 29] 41 (y := 186) (pcN := 2391) (dC := 0) (bc1 := 0) (bc2 := 0) (c1 := 0) (c2 := 0) (as := [(4, 1)]) (asC := [(4, 0)]) (LN := [(7, (0, 0)), (6, (0, 1)), (5, (0, 0)), (4, (4, 3)), (3, (4, 2)), (2, (4, 1)), (1, (4, 0)), (0, (6, 0))]) (stN := []) (hsC := jpA_20) (v := (0, 1)) (st2 := [(0, 1)]) (jA_186_8 (d := 0)) (by rfl) (by rfl) (by decide +kernel) (by rfl) (by rfl) (by omega) (by omega) (by omega) (by omega) rfl ?_
  refine jT_xiload (v := (0, 1)) (pcN := 2393) jI_379_2391 rfl rfl rfl ?_
  refine jT_xicT (pcN := 2398) jI_379_2393 rfl (by decide +kernel) rfl ?_
  refine jT_xiload (v := (0, 1)) (pcN := 2400) jI_379_2398 rfl rfl rfl ?_
  refine jT_xifT (pcN := 2415) jI_379_2400 rfl (by decide +kernel) rfl ?_
  refine jT_xgoto (pcN := 3740) jI_379_2415 rfl ?_
  refine jT_xiinc (x := 0) (z := 5) (LN := [(5, (0, 5)), (7, (0, 0)), (6, (0, 1)), (4, (4, 3)), (3, (4, 2)), (2, (4, 1)), (1, (4, 0)), (0, (6, 0))]) (pcN := 3743) jI_379_3740 rfl rfl (by decide) rfl rfl ?_
  refine jT_xgoto (pcN := 28) jI_379_3743 rfl ?_
  refine jT_xiload (v := (0, 5)) (pcN := 30) jI_379_28 rfl rfl rfl ?_
  refine jT_xaload_n (v := (6, 0)) (pcN := 31) jI_379_30 rfl rfl rfl ?_
  refine jT_adv 1 (pcN := 32) (LN := [(5, (0, 5)), (7, (0, 0)), (6, (0, 1)), (4, (4, 3)), (3, (4, 2)), (2, (4, 1)), (1, (4, 0)), (0, (6, 0))]) (stN := [(0, 5), (0, 5)]) (hsN := jpA_1929) (c1 := 0) (s1 := 0) (c2 := 0) (s2 := 0) (by exact rfl) ?_ (by omega) (by omega)
  refine jT_xiconst (k := 5) (pcN := 33) jI_379_32 rfl ?_
  refine jT_xisub (x := 5) (y := 5) (z := 0) (pcN := 34) jI_379_33 rfl (by decide) rfl ?_
  refine jT_xicT (pcN := 3746) jI_379_34 rfl (by decide +kernel) rfl ?_
  refine jT_xiconst (k := 1) (pcN := 3747) jI_379_3746 rfl ?_
  exact jT_ret rfl (by decide) (by show 41 ≤ 41; decide) (by omega) (by omega) ⟨rfl, rfl⟩
set_option maxRecDepth 100000 in
theorem jL_30_38 {d : Nat} {x0 x1 x2 x3 x4 : Int} (h_x0 : (-2147483648) ≤ x0 ∧ x0 ≤ 2147483647) (h_x1 : 3 ≤ x1 ∧ x1 ≤ 3) (h_x2 : (-2147483648) ≤ x2 ∧ x2 ≤ (-1)) (h_x3 : 1 ≤ x3 ∧ x3 ≤ 2147483647) (h_x4 : (-2147483648) ≤ x4 ∧ x4 ≤ 2147483647) : jT [x0, x1, x2, x3, x4] (d + 3) 379 41 2322 [(5, (0, 0)), (4, (4, 3)), (3, (4, 2)), (2, (4, 1)), (1, (4, 0)), (0, (6, 0))] [] jpA_1933 1 6 (fun k v hsN => k = 0 ∧ v = (0, 1)) := by
  refine jT_xaload_n (v := (4, 0)) (pcN := 2323) jI_379_2322 rfl rfl rfl ?_
  refine jT_xaload_n (v := (6, 0)) (pcN := 2324) jI_379_2323 rfl rfl rfl ?_
  refine jT_xiload (v := (0, 0)) (pcN := 2326) jI_379_2324 rfl rfl rfl ?_
  refine jT_xiconst (k := 1) (pcN := 2327) jI_379_2326 rfl ?_
  refine jT_xiadd (x := 0) (y := 1) (z := 1) (pcN := 2328) jI_379_2327 rfl (by decide) rfl ?_
  refine jT_adv 1 (pcN := 2329) (LN := [(5, (0, 0)), (4, (4, 3)), (3, (4, 2)), (2, (4, 1)), (1, (4, 0)), (0, (6, 0))]) (stN := [(0, x1), (4, 0)]) (hsN := jpA_1933) (c1 := 0) (s1 := 0) (c2 := 1) (s2 := 6) (by exact rfl) ?_ (by omega) (by omega)
  refine jT_eq (LN := [(5, (0, 0)), (4, (4, 3)), (3, (4, 2)), (2, (4, 1)), (1, (4, 0)), (0, (6, 0))]) (stN := [(0, 3), (4, 0)]) (hsN := [jzA_265, jzA_266, jgh, jgh, jgh, jgh, jgh, jgh, jgh, jgh, jgh, jgh, jgh, jgh, jzA_322, (100, [], jS0), jgh, jgh, jgh, jgh, jgh, jgh, jgh, jgh, jgh, jgh, jgh, jgh, jgh, jgh, jgh, (117, [], [35, 36, 37, 38]), jgh, jgh, jgh, jgh, jgh, jgh, (7, [(4, 39), (4, (-1)), (4, (-1))], []), (114, [], [40]), jgh]) (rfl) (by simp only [List.cons.injEq, Prod.mk.injEq, and_true, true_and] <;> ((try unfold jw); (try unfold jwl); omega)) (rfl) ?_
  refine jT_xaload_n (v := (6, 0)) (pcN := 2330) jI_379_2329 rfl rfl rfl ?_
  refine jT_xiload (v := (0, 0)) (pcN := 2332) jI_379_2330 rfl rfl rfl ?_
  refine jT_xiconst (k := 2) (pcN := 2333) jI_379_2332 rfl ?_
  refine jT_xiadd (x := 0) (y := 2) (z := 2) (pcN := 2334) jI_379_2333 rfl (by decide) rfl ?_
  refine jT_adv 1 (pcN := 2335) (LN := [(5, (0, 0)), (4, (4, 3)), (3, (4, 2)), (2, (4, 1)), (1, (4, 0)), (0, (6, 0))]) (stN := [(0, x2), (0, 3), (4, 0)]) (hsN := jpA_1933) (c1 := 0) (s1 := 0) (c2 := 1) (s2 := 6) (by exact rfl) ?_ (by omega) (by omega)
  refine jT_xaload_n (v := (6, 0)) (pcN := 2336) jI_379_2335 rfl rfl rfl ?_
  refine jT_xiload (v := (0, 0)) (pcN := 2338) jI_379_2336 rfl rfl rfl ?_
  refine jT_xiconst (k := 3) (pcN := 2339) jI_379_2338 rfl ?_
  refine jT_xiadd (x := 0) (y := 3) (z := 3) (pcN := 2340) jI_379_2339 rfl (by decide) rfl ?_
  refine jT_adv 1 (pcN := 2341) (LN := [(5, (0, 0)), (4, (4, 3)), (3, (4, 2)), (2, (4, 1)), (1, (4, 0)), (0, (6, 0))]) (stN := [(0, x3), (0, x2), (0, 3), (4, 0)]) (hsN := jpA_1933) (c1 := 0) (s1 := 0) (c2 := 1) (s2 := 6) (by exact rfl) ?_ (by omega) (by omega)
  refine jT_ifF (a := x3) (t := 2348) (by rfl) (by rfl) (by rfl) (jw_idd (by omega) (by omega)) (by simp only [jcP] <;> omega) ?_
  refine jT_xiconst (k := 1) (pcN := 2345) jI_379_2344 rfl ?_
  refine jT_xgoto (pcN := 2349) jI_379_2345 rfl ?_
  refine jT_xaload_n (v := (4, 2)) (pcN := 2350) jI_379_2349 rfl rfl rfl ?_
  refine jT_fR [0, 2, 4, 5, 6, 7, 8, 9, 10, 11, 12, 13, 14, 30, 31, 32, 33, 34, 35, 36, 37, 38, 39, 40] 41 (y := 354) (pcN := 2353) (dC := 2) (bc1 := 1) (bc2 := 6) (c1 := 0) (c2 := 0) (as := [(4, 0), (0, 3), (0, x2), (0, 1), (4, 2)]) (asC := [(4, 0), (0, 3), (0, x2), (0, 1), (4, 1)]) (LN := [(5, (0, 0)), (4, (4, 3)), (3, (4, 2)), (2, (4, 1)), (1, (4, 0)), (0, (6, 0))]) (stN := []) (hsC := jpA_1872) (v := (0, 1)) (st2 := [(0, 1)]) (jA_354_944 (d := 0) (by omega)) (by rfl) (by rfl) (by decide +kernel) (by rfl) (by rfl) (by omega) (by omega) (by omega) (by omega) rfl ?_
  refine jT_xistore (v := (0, 1)) (LN := [(6, (0, 1)), (5, (0, 0)), (4, (4, 3)), (3, (4, 2)), (2, (4, 1)), (1, (4, 0)), (0, (6, 0))]) (pcN := 2355) jI_379_2353 rfl rfl rfl rfl ?_
  refine jT_xaload_n (v := (4, 1)) (pcN := 2356) jI_379_2355 rfl rfl rfl ?_
  refine jT_xaload_n (v := (6, 0)) (pcN := 2357) jI_379_2356 rfl rfl rfl ?_
  refine jT_xiload (v := (0, 0)) (pcN := 2359) jI_379_2357 rfl rfl rfl ?_
  refine jT_xiconst (k := 1) (pcN := 2360) jI_379_2359 rfl ?_
  refine jT_xiadd (x := 0) (y := 1) (z := 1) (pcN := 2361) jI_379_2360 rfl (by decide) rfl ?_
  refine jT_adv 1 (pcN := 2362) (LN := [(6, (0, 1)), (5, (0, 0)), (4, (4, 3)), (3, (4, 2)), (2, (4, 1)), (1, (4, 0)), (0, (6, 0))]) (stN := [(0, x1), (4, 1)]) (hsN := jpA_1933) (c1 := 0) (s1 := 0) (c2 := 0) (s2 := 0) (by exact rfl) ?_ (by omega) (by omega)
  refine jT_eq (LN := [(6, (0, 1)), (5, (0, 0)), (4, (4, 3)), (3, (4, 2)), (2, (4, 1)), (1, (4, 0)), (0, (6, 0))]) (stN := [(0, 3), (4, 1)]) (hsN := [jzA_265, jzA_266, jgh, jgh, jgh, jgh, jgh, jgh, jgh, jgh, jgh, jgh, jgh, jgh, jzA_322, (100, [], jS0), jgh, jgh, jgh, jgh, jgh, jgh, jgh, jgh, jgh, jgh, jgh, jgh, jgh, jgh, jgh, (117, [], [35, 36, 37, 38]), jgh, jgh, jgh, jgh, jgh, jgh, (7, [(4, 39), (4, (-1)), (4, (-1))], []), (114, [], [40]), jgh]) (rfl) (by simp only [List.cons.injEq, Prod.mk.injEq, and_true, true_and] <;> ((try unfold jw); (try unfold jwl); omega)) (rfl) ?_
  refine jT_xaload_n (v := (6, 0)) (pcN := 2363) jI_379_2362 rfl rfl rfl ?_
  refine jT_xiload (v := (0, 0)) (pcN := 2365) jI_379_2363 rfl rfl rfl ?_
  refine jT_xiconst (k := 2) (pcN := 2366) jI_379_2365 rfl ?_
  refine jT_xiadd (x := 0) (y := 2) (z := 2) (pcN := 2367) jI_379_2366 rfl (by decide) rfl ?_
  refine jT_adv 1 (pcN := 2368) (LN := [(6, (0, 1)), (5, (0, 0)), (4, (4, 3)), (3, (4, 2)), (2, (4, 1)), (1, (4, 0)), (0, (6, 0))]) (stN := [(0, x2), (0, 3), (4, 1)]) (hsN := jpA_1933) (c1 := 0) (s1 := 0) (c2 := 0) (s2 := 0) (by exact rfl) ?_ (by omega) (by omega)
  refine jT_xaload_n (v := (6, 0)) (pcN := 2369) jI_379_2368 rfl rfl rfl ?_
  refine jT_xiload (v := (0, 0)) (pcN := 2371) jI_379_2369 rfl rfl rfl ?_
  refine jT_xiconst (k := 3) (pcN := 2372) jI_379_2371 rfl ?_
  refine jT_xiadd (x := 0) (y := 3) (z := 3) (pcN := 2373) jI_379_2372 rfl (by decide) rfl ?_
  refine jT_adv 1 (pcN := 2374) (LN := [(6, (0, 1)), (5, (0, 0)), (4, (4, 3)), (3, (4, 2)), (2, (4, 1)), (1, (4, 0)), (0, (6, 0))]) (stN := [(0, x3), (0, x2), (0, 3), (4, 1)]) (hsN := jpA_1933) (c1 := 0) (s1 := 0) (c2 := 0) (s2 := 0) (by exact rfl) ?_ (by omega) (by omega)
  refine jT_ifF (a := x3) (t := 2381) (by rfl) (by rfl) (by rfl) (jw_idd (by omega) (by omega)) (by simp only [jcP] <;> omega) ?_
  refine jT_xiconst (k := 1) (pcN := 2378) jI_379_2377 rfl ?_
  refine jT_xgoto (pcN := 2382) jI_379_2378 rfl ?_
  refine jT_fB [1, 15, 16, 17, 18, 19, 20, 21, 22, 23, 24, 25, 26, 27, 28, 29] 41 (y := 279) (pcN := 2385) (dC := 2) (bc1 := 0) (bc2 := 0) (c1 := 0) (c2 := 0) (as := [(4, 1), (0, 3), (0, x2), (0, 1)]) (asC := [(4, 0), (0, 3), (0, x2), (0, 1)]) (LN := [(6, (0, 1)), (5, (0, 0)), (4, (4, 3)), (3, (4, 2)), (2, (4, 1)), (1, (4, 0)), (0, (6, 0))]) (stN := []) (hsC := jpA_1519) (hsD := jpA_1820) (v := (0, 0)) (st2 := [(0, 0)]) (hs2 := jpA_1934) (jA_279_945 (d := 0) (by omega)) (by rfl) (by rfl) (by decide +kernel) (by rfl) (by rfl) (by omega) (by omega) (by omega) (by omega) rfl (by decide +kernel) ?_
  refine jT_xistore (v := (0, 0)) (LN := [(7, (0, 0)), (6, (0, 1)), (5, (0, 0)), (4, (4, 3)), (3, (4, 2)), (2, (4, 1)), (1, (4, 0)), (0, (6, 0))]) (pcN := 2387) jI_379_2385 rfl rfl rfl rfl ?_
  refine jT_xaload_n (v := (4, 1)) (pcN := 2388) jI_379_2387 rfl rfl rfl ?_
  refine jT_fR [1, 15, 16, 17, 18, 19, 20, 21, 22, 23, 24, 25, 26, 27, 28, 29] 41 (y := 186) (pcN := 2391) (dC := 0) (bc1 := 0) (bc2 := 0) (c1 := 0) (c2 := 0) (as := [(4, 1)]) (asC := [(4, 0)]) (LN := [(7, (0, 0)), (6, (0, 1)), (5, (0, 0)), (4, (4, 3)), (3, (4, 2)), (2, (4, 1)), (1, (4, 0)), (0, (6, 0))]) (stN := []) (hsC := jpA_20) (v := (0, 1)) (st2 := [(0, 1)]) (jA_186_8 (d := 0)) (by rfl) (by rfl) (by decide +kernel) (by rfl) (by rfl) (by omega) (by omega) (by omega) (by omega) rfl ?_
  refine jT_xiload (v := (0, 1)) (pcN := 2393) jI_379_2391 rfl rfl rfl ?_
  refine jT_xicT (pcN := 2398) jI_379_2393 rfl (by decide +kernel) rfl ?_
  refine jT_xiload (v := (0, 1)) (pcN := 2400) jI_379_2398 rfl rfl rfl ?_
  refine jT_xifT (pcN := 2415) jI_379_2400 rfl (by decide +kernel) rfl ?_
  refine jT_xgoto (pcN := 3740) jI_379_2415 rfl ?_
  refine jT_xiinc (x := 0) (z := 5) (LN := [(5, (0, 5)), (7, (0, 0)), (6, (0, 1)), (4, (4, 3)), (3, (4, 2)), (2, (4, 1)), (1, (4, 0)), (0, (6, 0))]) (pcN := 3743) jI_379_3740 rfl rfl (by decide) rfl rfl ?_
  refine jT_xgoto (pcN := 28) jI_379_3743 rfl ?_
  refine jT_xiload (v := (0, 5)) (pcN := 30) jI_379_28 rfl rfl rfl ?_
  refine jT_xaload_n (v := (6, 0)) (pcN := 31) jI_379_30 rfl rfl rfl ?_
  refine jT_adv 1 (pcN := 32) (LN := [(5, (0, 5)), (7, (0, 0)), (6, (0, 1)), (4, (4, 3)), (3, (4, 2)), (2, (4, 1)), (1, (4, 0)), (0, (6, 0))]) (stN := [(0, 5), (0, 5)]) (hsN := jpA_1934) (c1 := 0) (s1 := 0) (c2 := 0) (s2 := 0) (by exact rfl) ?_ (by omega) (by omega)
  refine jT_xiconst (k := 5) (pcN := 33) jI_379_32 rfl ?_
  refine jT_xisub (x := 5) (y := 5) (z := 0) (pcN := 34) jI_379_33 rfl (by decide) rfl ?_
  refine jT_xicT (pcN := 3746) jI_379_34 rfl (by decide +kernel) rfl ?_
  refine jT_xiconst (k := 1) (pcN := 3747) jI_379_3746 rfl ?_
  exact jT_ret rfl (by decide) (by show 41 ≤ 41; decide) (by omega) (by omega) ⟨rfl, rfl⟩
set_option maxRecDepth 100000 in
theorem jL_30_39 {d : Nat} {x0 x1 x2 x3 x4 : Int} (h_x0 : (-2147483648) ≤ x0 ∧ x0 ≤ 2147483647) (h_x1 : 3 ≤ x1 ∧ x1 ≤ 3) (h_x2 : 0 ≤ x2 ∧ x2 ≤ 0) (h_x3 : 1 ≤ x3 ∧ x3 ≤ 2147483647) (h_x4 : (-2147483648) ≤ x4 ∧ x4 ≤ 2147483647) : jT [x0, x1, x2, x3, x4] (d + 9) 379 50 2322 [(5, (0, 0)), (4, (4, 3)), (3, (4, 2)), (2, (4, 1)), (1, (4, 0)), (0, (6, 0))] [] jpA_3712 15 377 (fun k v hsN => k = 0 ∧ v = (0, 1)) := by
  refine jT_xaload_n (v := (4, 0)) (pcN := 2323) jI_379_2322 rfl rfl rfl ?_
  refine jT_xaload_n (v := (6, 0)) (pcN := 2324) jI_379_2323 rfl rfl rfl ?_
  refine jT_xiload (v := (0, 0)) (pcN := 2326) jI_379_2324 rfl rfl rfl ?_
  refine jT_xiconst (k := 1) (pcN := 2327) jI_379_2326 rfl ?_
  refine jT_xiadd (x := 0) (y := 1) (z := 1) (pcN := 2328) jI_379_2327 rfl (by decide) rfl ?_
  refine jT_adv 1 (pcN := 2329) (LN := [(5, (0, 0)), (4, (4, 3)), (3, (4, 2)), (2, (4, 1)), (1, (4, 0)), (0, (6, 0))]) (stN := [(0, x1), (4, 0)]) (hsN := jpA_3712) (c1 := 0) (s1 := 0) (c2 := 15) (s2 := 377) (by exact rfl) ?_ (by omega) (by omega)
  refine jT_eq (LN := [(5, (0, 0)), (4, (4, 3)), (3, (4, 2)), (2, (4, 1)), (1, (4, 0)), (0, (6, 0))]) (stN := [(0, 3), (4, 0)]) (hsN := [jzA_265, jzA_266, (101, [], [0]), jgh, (8, [(4, 30), (4, 31)], []), jgh, jgh, jgh, jgh, jgh, jgh, jgh, jgh, jgh, jzA_721, (100, [], jS0), jgh, jgh, jgh, jgh, (130, [], [37, 38, 39, 40, 41, 42]), (101, [], [0, 0, 0, 0, 0, 0]), jgh, jgh, jgh, jgh, jgh, jgh, jgh, jgh, jgh, jgh, jgh, (117, [], [43, 44, 45, 46]), jgh, jgh, jgh, (100, [], (jenc (jlg 0))), jgh, jgh, jgh, jgh, jgh, jgh, jgh, jgh, (7, [(4, 47), (4, (-1)), (4, (-1))], []), (114, [], [48]), (4, [(4, 49), (1, 1)], []), (101, [], [0, 0, 0, 0, 0, 0])]) (rfl) (by simp only [List.cons.injEq, Prod.mk.injEq, and_true, true_and] <;> ((try unfold jw); (try unfold jwl); omega)) (rfl) ?_
  refine jT_xaload_n (v := (6, 0)) (pcN := 2330) jI_379_2329 rfl rfl rfl ?_
  refine jT_xiload (v := (0, 0)) (pcN := 2332) jI_379_2330 rfl rfl rfl ?_
  refine jT_xiconst (k := 2) (pcN := 2333) jI_379_2332 rfl ?_
  refine jT_xiadd (x := 0) (y := 2) (z := 2) (pcN := 2334) jI_379_2333 rfl (by decide) rfl ?_
  refine jT_adv 1 (pcN := 2335) (LN := [(5, (0, 0)), (4, (4, 3)), (3, (4, 2)), (2, (4, 1)), (1, (4, 0)), (0, (6, 0))]) (stN := [(0, x2), (0, 3), (4, 0)]) (hsN := jpA_3712) (c1 := 0) (s1 := 0) (c2 := 15) (s2 := 377) (by exact rfl) ?_ (by omega) (by omega)
  refine jT_eq (LN := [(5, (0, 0)), (4, (4, 3)), (3, (4, 2)), (2, (4, 1)), (1, (4, 0)), (0, (6, 0))]) (stN := [(0, 0), (0, 3), (4, 0)]) (hsN := [jzA_265, jzA_266, (101, [], [0]), jgh, (8, [(4, 30), (4, 31)], []), jgh, jgh, jgh, jgh, jgh, jgh, jgh, jgh, jgh, jzA_721, (100, [], jS0), jgh, jgh, jgh, jgh, (130, [], [37, 38, 39, 40, 41, 42]), (101, [], [0, 0, 0, 0, 0, 0]), jgh, jgh, jgh, jgh, jgh, jgh, jgh, jgh, jgh, jgh, jgh, (117, [], [43, 44, 45, 46]), jgh, jgh, jgh, (100, [], (jenc (jlg 0))), jgh, jgh, jgh, jgh, jgh, jgh, jgh, jgh, (7, [(4, 47), (4, (-1)), (4, (-1))], []), (114, [], [48]), (4, [(4, 49), (1, 1)], []), (101, [], [0, 0, 0, 0, 0, 0])]) (rfl) (by simp only [List.cons.injEq, Prod.mk.injEq, and_true, true_and] <;> ((try unfold jw); (try unfold jwl); omega)) (rfl) ?_
  refine jT_xaload_n (v := (6, 0)) (pcN := 2336) jI_379_2335 rfl rfl rfl ?_
  refine jT_xiload (v := (0, 0)) (pcN := 2338) jI_379_2336 rfl rfl rfl ?_
  refine jT_xiconst (k := 3) (pcN := 2339) jI_379_2338 rfl ?_
  refine jT_xiadd (x := 0) (y := 3) (z := 3) (pcN := 2340) jI_379_2339 rfl (by decide) rfl ?_
  refine jT_adv 1 (pcN := 2341) (LN := [(5, (0, 0)), (4, (4, 3)), (3, (4, 2)), (2, (4, 1)), (1, (4, 0)), (0, (6, 0))]) (stN := [(0, x3), (0, 0), (0, 3), (4, 0)]) (hsN := jpA_3712) (c1 := 0) (s1 := 0) (c2 := 15) (s2 := 377) (by exact rfl) ?_ (by omega) (by omega)
  refine jT_ifF (a := x3) (t := 2348) (by rfl) (by rfl) (by rfl) (jw_idd (by omega) (by omega)) (by simp only [jcP] <;> omega) ?_
  refine jT_xiconst (k := 1) (pcN := 2345) jI_379_2344 rfl ?_
  refine jT_xgoto (pcN := 2349) jI_379_2345 rfl ?_
  refine jT_xaload_n (v := (4, 2)) (pcN := 2350) jI_379_2349 rfl rfl rfl ?_
  refine jT_fB [0, 2, 4, 5, 6, 7, 8, 9, 10, 11, 12, 13, 14, 30, 31, 32, 33, 34, 35, 36, 43, 44, 45, 46, 47, 48, 49] 50 (y := 354) (pcN := 2353) (dC := 6) (bc1 := 5) (bc2 := 17) (c1 := 10) (c2 := 360) (as := [(4, 0), (0, 3), (0, 0), (0, 1), (4, 2)]) (asC := [(4, 0), (0, 3), (0, 0), (0, 1), (4, 1)]) (LN := [(5, (0, 0)), (4, (4, 3)), (3, (4, 2)), (2, (4, 1)), (1, (4, 0)), (0, (6, 0))]) (stN := []) (hsC := jpA_3649) (hsD := jpA_3651) (v := (0, 0)) (st2 := [(0, 0)]) (hs2 := jpA_3713) (jA_354_947 (d := 0)) (by rfl) (by rfl) (by decide +kernel) (by rfl) (by rfl) (by omega) (by omega) (by omega) (by omega) rfl (by decide +kernel) ?_
  refine jT_xistore (v := (0, 0)) (LN := [(6, (0, 0)), (5, (0, 0)), (4, (4, 3)), (3, (4, 2)), (2, (4, 1)), (1, (4, 0)), (0, (6, 0))]) (pcN := 2355) jI_379_2353 rfl rfl rfl rfl ?_
  refine jT_xaload_n (v := (4, 1)) (pcN := 2356) jI_379_2355 rfl rfl rfl ?_
  refine jT_xaload_n (v := (6, 0)) (pcN := 2357) jI_379_2356 rfl rfl rfl ?_
  refine jT_xiload (v := (0, 0)) (pcN := 2359) jI_379_2357 rfl rfl rfl ?_
  refine jT_xiconst (k := 1) (pcN := 2360) jI_379_2359 rfl ?_
  refine jT_xiadd (x := 0) (y := 1) (z := 1) (pcN := 2361) jI_379_2360 rfl (by decide) rfl ?_
  refine jT_adv 1 (pcN := 2362) (LN := [(6, (0, 0)), (5, (0, 0)), (4, (4, 3)), (3, (4, 2)), (2, (4, 1)), (1, (4, 0)), (0, (6, 0))]) (stN := [(0, x1), (4, 1)]) (hsN := jpA_3713) (c1 := 0) (s1 := 0) (c2 := 10) (s2 := 360) (by exact rfl) ?_ (by omega) (by omega)
  refine jT_eq (LN := [(6, (0, 0)), (5, (0, 0)), (4, (4, 3)), (3, (4, 2)), (2, (4, 1)), (1, (4, 0)), (0, (6, 0))]) (stN := [(0, 3), (4, 1)]) (hsN := [jzA_265, jzA_266, (101, [], [1200]), jgh, (8, [(4, 30), (4, 31)], []), jgh, jgh, jgh, jgh, jgh, jgh, jgh, jgh, jgh, jzA_721, (100, [], jS0), jgh, jgh, jgh, jgh, (130, [], [37, 38, 39, 40, 41, 42]), (101, [], [0, 0, 0, 0, 0, 0]), jgh, jgh, jgh, jgh, jgh, jgh, jgh, jgh, jgh, jgh, jgh, (117, [], [43, 44, 45, 46]), jgh, jgh, jgh, (100, [], (jenc (jlg 0))), jgh, jgh, jgh, jgh, jgh, jgh, jgh, jgh, (7, [(4, 47), (4, 50), (4, (-1))], []), (114, [], [48]), (4, [(4, 49), (1, 1)], []), (101, [], [0, 0, 0, 0, 0, 0]), (114, [], [54]), (101, [], [0, 0, 0, 0, 0, 0]), (4, [(4, 51), (1, 1)], []), (101, [], [1, 0, 0, 0, 0, 0]), (4, [(4, 53), (1, 1)], [])]) (rfl) (by simp only [List.cons.injEq, Prod.mk.injEq, and_true, true_and] <;> ((try unfold jw); (try unfold jwl); omega)) (rfl) ?_
  refine jT_xaload_n (v := (6, 0)) (pcN := 2363) jI_379_2362 rfl rfl rfl ?_
  refine jT_xiload (v := (0, 0)) (pcN := 2365) jI_379_2363 rfl rfl rfl ?_
  refine jT_xiconst (k := 2) (pcN := 2366) jI_379_2365 rfl ?_
  refine jT_xiadd (x := 0) (y := 2) (z := 2) (pcN := 2367) jI_379_2366 rfl (by decide) rfl ?_
  refine jT_adv 1 (pcN := 2368) (LN := [(6, (0, 0)), (5, (0, 0)), (4, (4, 3)), (3, (4, 2)), (2, (4, 1)), (1, (4, 0)), (0, (6, 0))]) (stN := [(0, x2), (0, 3), (4, 1)]) (hsN := jpA_3713) (c1 := 0) (s1 := 0) (c2 := 10) (s2 := 360) (by exact rfl) ?_ (by omega) (by omega)
  refine jT_eq (LN := [(6, (0, 0)), (5, (0, 0)), (4, (4, 3)), (3, (4, 2)), (2, (4, 1)), (1, (4, 0)), (0, (6, 0))]) (stN := [(0, 0), (0, 3), (4, 1)]) (hsN := [jzA_265, jzA_266, (101, [], [1200]), jgh, (8, [(4, 30), (4, 31)], []), jgh, jgh, jgh, jgh, jgh, jgh, jgh, jgh, jgh, jzA_721, (100, [], jS0), jgh, jgh, jgh, jgh, (130, [], [37, 38, 39, 40, 41, 42]), (101, [], [0, 0, 0, 0, 0, 0]), jgh, jgh, jgh, jgh, jgh, jgh, jgh, jgh, jgh, jgh, jgh, (117, [], [43, 44, 45, 46]), jgh, jgh, jgh, (100, [], (jenc (jlg 0))), jgh, jgh, jgh, jgh, jgh, jgh, jgh, jgh, (7, [(4, 47), (4, 50), (4, (-1))], []), (114, [], [48]), (4, [(4, 49), (1, 1)], []), (101, [], [0, 0, 0, 0, 0, 0]), (114, [], [54]), (101, [], [0, 0, 0, 0, 0, 0]), (4, [(4, 51), (1, 1)], []), (101, [], [1, 0, 0, 0, 0, 0]), (4, [(4, 53), (1, 1)], [])]) (rfl) (by simp only [List.cons.injEq, Prod.mk.injEq, and_true, true_and] <;> ((try unfold jw); (try unfold jwl); omega)) (rfl) ?_
  refine jT_xaload_n (v := (6, 0)) (pcN := 2369) jI_379_2368 rfl rfl rfl ?_
  refine jT_xiload (v := (0, 0)) (pcN := 2371) jI_379_2369 rfl rfl rfl ?_
  refine jT_xiconst (k := 3) (pcN := 2372) jI_379_2371 rfl ?_
  refine jT_xiadd (x := 0) (y := 3) (z := 3) (pcN := 2373) jI_379_2372 rfl (by decide) rfl ?_
  refine jT_adv 1 (pcN := 2374) (LN := [(6, (0, 0)), (5, (0, 0)), (4, (4, 3)), (3, (4, 2)), (2, (4, 1)), (1, (4, 0)), (0, (6, 0))]) (stN := [(0, x3), (0, 0), (0, 3), (4, 1)]) (hsN := jpA_3713) (c1 := 0) (s1 := 0) (c2 := 10) (s2 := 360) (by exact rfl) ?_ (by omega) (by omega)
  refine jT_ifF (a := x3) (t := 2381) (by rfl) (by rfl) (by rfl) (jw_idd (by omega) (by omega)) (by simp only [jcP] <;> omega) ?_
  refine jT_xiconst (k := 1) (pcN := 2378) jI_379_2377 rfl ?_
  refine jT_xgoto (pcN := 2382) jI_379_2378 rfl ?_
  refine jT_fB [1, 15, 16, 17, 18, 19, 20, 21, 22, 23, 24, 25, 26, 27, 28, 29, 37, 38, 39, 40, 41, 42] 55 (y := 279) (pcN := 2385) (dC := 8) (bc1 := 10) (bc2 := 360) (c1 := 0) (c2 := 0) (as := [(4, 1), (0, 3), (0, 0), (0, 1)]) (asC := [(4, 0), (0, 3), (0, 0), (0, 1)]) (LN := [(6, (0, 0)), (5, (0, 0)), (4, (4, 3)), (3, (4, 2)), (2, (4, 1)), (1, (4, 0)), (0, (6, 0))]) (stN := []) (hsC := jpA_1695) (hsD := jpA_3636) (v := (0, 1200)) (st2 := [(0, 1200)]) (hs2 := jpA_3714) (jA_279_950 (d := 0)) (by rfl) (by rfl) (by decide +kernel) (by rfl) (by rfl) (by omega) (by omega) (by omega) (by omega) rfl (by decide +kernel) ?_
  refine jT_xistore (v := (0, 1200)) (LN := [(7, (0, 1200)), (6, (0, 0)), (5, (0, 0)), (4, (4, 3)), (3, (4, 2)), (2, (4, 1)), (1, (4, 0)), (0, (6, 0))]) (pcN := 2387) jI_379_2385 rfl rfl rfl rfl ?_
  refine jT_xaload_n (v := (4, 1)) (pcN := 2388) jI_379_2387 rfl rfl rfl ?_
  refine jT_fR [1, 15, 16, 17, 18, 19, 20, 21, 22, 23, 24, 25, 26, 27, 28, 29] 65 (y := 186) (pcN := 2391) (dC := 0) (bc1 := 0) (bc2 := 0) (c1 := 0) (c2 := 0) (as := [(4, 1)]) (asC := [(4, 0)]) (LN := [(7, (0, 1200)), (6, (0, 0)), (5, (0, 0)), (4, (4, 3)), (3, (4, 2)), (2, (4, 1)), (1, (4, 0)), (0, (6, 0))]) (stN := []) (hsC := jpA_22) (v := (0, 0)) (st2 := [(0, 0)]) (jA_186_726 (d := 0)) (by rfl) (by rfl) (by decide +kernel) (by rfl) (by rfl) (by omega) (by omega) (by omega) (by omega) rfl ?_
  refine jT_xiload (v := (0, 0)) (pcN := 2393) jI_379_2391 rfl rfl rfl ?_
  refine jT_xicT (pcN := 2398) jI_379_2393 rfl (by decide +kernel) rfl ?_
  refine jT_xiload (v := (0, 0)) (pcN := 2400) jI_379_2398 rfl rfl rfl ?_
  refine jT_xifF (t := 2415) (pcN := 2403) jI_379_2400 rfl (by decide +kernel) rfl rfl ?_
  refine jT_xaload_n (v := (4, 2)) (pcN := 2404) jI_379_2403 rfl rfl rfl ?_
  refine jT_xiconst (k := 0) (pcN := 2405) jI_379_2404 rfl ?_
  refine jT_lald (x := 1200) (a := 2) (j := 0) (fs := []) (X := [1200]) jI_379_2405 rfl rfl rfl rfl ?_
  refine jT_eq (LN := [(7, (0, 1200)), (6, (0, 0)), (5, (0, 0)), (4, (4, 3)), (3, (4, 2)), (2, (4, 1)), (1, (4, 0)), (0, (6, 0))]) (stN := [(1, 1200)]) (hsN := jpA_3714) rfl rfl rfl ?_
  refine jT_xiload (v := (0, 1200)) (pcN := 2408) jI_379_2406 rfl rfl rfl ?_
  refine jT_xi2l (x := 1200) (z := 1200) (pcN := 2409) jI_379_2408 rfl (by decide +kernel) rfl ?_
  refine jT_lcmp (a := 1200) (b := 1200) (z := 0) (by rfl) (by rfl) (by decide +kernel) (by decide +kernel) (by decide) ?_
  refine jT_xifT (pcN := 2415) jI_379_2410 rfl (by decide +kernel) rfl ?_
  refine jT_xgoto (pcN := 3740) jI_379_2415 rfl ?_
  refine jT_xiinc (x := 0) (z := 5) (LN := [(5, (0, 5)), (7, (0, 1200)), (6, (0, 0)), (4, (4, 3)), (3, (4, 2)), (2, (4, 1)), (1, (4, 0)), (0, (6, 0))]) (pcN := 3743) jI_379_3740 rfl rfl (by decide) rfl rfl ?_
  refine jT_xgoto (pcN := 28) jI_379_3743 rfl ?_
  refine jT_xiload (v := (0, 5)) (pcN := 30) jI_379_28 rfl rfl rfl ?_
  refine jT_xaload_n (v := (6, 0)) (pcN := 31) jI_379_30 rfl rfl rfl ?_
  refine jT_adv 1 (pcN := 32) (LN := [(5, (0, 5)), (7, (0, 1200)), (6, (0, 0)), (4, (4, 3)), (3, (4, 2)), (2, (4, 1)), (1, (4, 0)), (0, (6, 0))]) (stN := [(0, 5), (0, 5)]) (hsN := jpA_3714) (c1 := 0) (s1 := 0) (c2 := 0) (s2 := 0) (by exact rfl) ?_ (by omega) (by omega)
  refine jT_xiconst (k := 5) (pcN := 33) jI_379_32 rfl ?_
  refine jT_xisub (x := 5) (y := 5) (z := 0) (pcN := 34) jI_379_33 rfl (by decide) rfl ?_
  refine jT_xicT (pcN := 3746) jI_379_34 rfl (by decide +kernel) rfl ?_
  refine jT_xiconst (k := 1) (pcN := 3747) jI_379_3746 rfl ?_
  exact jT_ret rfl (by decide) (by show 50 ≤ 65; decide) (by omega) (by omega) ⟨rfl, rfl⟩
set_option maxRecDepth 100000 in
theorem jL_30_40 {d : Nat} {x0 x1 x2 x3 x4 : Int} (h_x0 : (-2147483648) ≤ x0 ∧ x0 ≤ 2147483647) (h_x1 : 3 ≤ x1 ∧ x1 ≤ 3) (h_x2 : 1 ≤ x2 ∧ x2 ≤ 2147483647) (h_x3 : 1 ≤ x3 ∧ x3 ≤ 2147483647) (h_x4 : (-2147483648) ≤ x4 ∧ x4 ≤ 2147483647) : jT [x0, x1, x2, x3, x4] (d + 3) 379 41 2322 [(5, (0, 0)), (4, (4, 3)), (3, (4, 2)), (2, (4, 1)), (1, (4, 0)), (0, (6, 0))] [] jpA_1933 1 6 (fun k v hsN => k = 0 ∧ v = (0, 1)) := by
  refine jT_xaload_n (v := (4, 0)) (pcN := 2323) jI_379_2322 rfl rfl rfl ?_
  refine jT_xaload_n (v := (6, 0)) (pcN := 2324) jI_379_2323 rfl rfl rfl ?_
  refine jT_xiload (v := (0, 0)) (pcN := 2326) jI_379_2324 rfl rfl rfl ?_
  refine jT_xiconst (k := 1) (pcN := 2327) jI_379_2326 rfl ?_
  refine jT_xiadd (x := 0) (y := 1) (z := 1) (pcN := 2328) jI_379_2327 rfl (by decide) rfl ?_
  refine jT_adv 1 (pcN := 2329) (LN := [(5, (0, 0)), (4, (4, 3)), (3, (4, 2)), (2, (4, 1)), (1, (4, 0)), (0, (6, 0))]) (stN := [(0, x1), (4, 0)]) (hsN := jpA_1933) (c1 := 0) (s1 := 0) (c2 := 1) (s2 := 6) (by exact rfl) ?_ (by omega) (by omega)
  refine jT_eq (LN := [(5, (0, 0)), (4, (4, 3)), (3, (4, 2)), (2, (4, 1)), (1, (4, 0)), (0, (6, 0))]) (stN := [(0, 3), (4, 0)]) (hsN := [jzA_265, jzA_266, jgh, jgh, jgh, jgh, jgh, jgh, jgh, jgh, jgh, jgh, jgh, jgh, jzA_322, (100, [], jS0), jgh, jgh, jgh, jgh, jgh, jgh, jgh, jgh, jgh, jgh, jgh, jgh, jgh, jgh, jgh, (117, [], [35, 36, 37, 38]), jgh, jgh, jgh, jgh, jgh, jgh, (7, [(4, 39), (4, (-1)), (4, (-1))], []), (114, [], [40]), jgh]) (rfl) (by simp only [List.cons.injEq, Prod.mk.injEq, and_true, true_and] <;> ((try unfold jw); (try unfold jwl); omega)) (rfl) ?_
  refine jT_xaload_n (v := (6, 0)) (pcN := 2330) jI_379_2329 rfl rfl rfl ?_
  refine jT_xiload (v := (0, 0)) (pcN := 2332) jI_379_2330 rfl rfl rfl ?_
  refine jT_xiconst (k := 2) (pcN := 2333) jI_379_2332 rfl ?_
  refine jT_xiadd (x := 0) (y := 2) (z := 2) (pcN := 2334) jI_379_2333 rfl (by decide) rfl ?_
  refine jT_adv 1 (pcN := 2335) (LN := [(5, (0, 0)), (4, (4, 3)), (3, (4, 2)), (2, (4, 1)), (1, (4, 0)), (0, (6, 0))]) (stN := [(0, x2), (0, 3), (4, 0)]) (hsN := jpA_1933) (c1 := 0) (s1 := 0) (c2 := 1) (s2 := 6) (by exact rfl) ?_ (by omega) (by omega)
  refine jT_xaload_n (v := (6, 0)) (pcN := 2336) jI_379_2335 rfl rfl rfl ?_
  refine jT_xiload (v := (0, 0)) (pcN := 2338) jI_379_2336 rfl rfl rfl ?_
  refine jT_xiconst (k := 3) (pcN := 2339) jI_379_2338 rfl ?_
  refine jT_xiadd (x := 0) (y := 3) (z := 3) (pcN := 2340) jI_379_2339 rfl (by decide) rfl ?_
  refine jT_adv 1 (pcN := 2341) (LN := [(5, (0, 0)), (4, (4, 3)), (3, (4, 2)), (2, (4, 1)), (1, (4, 0)), (0, (6, 0))]) (stN := [(0, x3), (0, x2), (0, 3), (4, 0)]) (hsN := jpA_1933) (c1 := 0) (s1 := 0) (c2 := 1) (s2 := 6) (by exact rfl) ?_ (by omega) (by omega)
  refine jT_ifF (a := x3) (t := 2348) (by rfl) (by rfl) (by rfl) (jw_idd (by omega) (by omega)) (by simp only [jcP] <;> omega) ?_
  refine jT_xiconst (k := 1) (pcN := 2345) jI_379_2344 rfl ?_
  refine jT_xgoto (pcN := 2349) jI_379_2345 rfl ?_
  refine jT_xaload_n (v := (4, 2)) (pcN := 2350) jI_379_2349 rfl rfl rfl ?_
  refine jT_fR [0, 2, 4, 5, 6, 7, 8, 9, 10, 11, 12, 13, 14, 30, 31, 32, 33, 34, 35, 36, 37, 38, 39, 40] 41 (y := 354) (pcN := 2353) (dC := 2) (bc1 := 1) (bc2 := 6) (c1 := 0) (c2 := 0) (as := [(4, 0), (0, 3), (0, x2), (0, 1), (4, 2)]) (asC := [(4, 0), (0, 3), (0, x2), (0, 1), (4, 1)]) (LN := [(5, (0, 0)), (4, (4, 3)), (3, (4, 2)), (2, (4, 1)), (1, (4, 0)), (0, (6, 0))]) (stN := []) (hsC := jpA_1872) (v := (0, 1)) (st2 := [(0, 1)]) (jA_354_952 (d := 0) (by omega)) (by rfl) (by rfl) (by decide +kernel) (by rfl) (by rfl) (by omega) (by omega) (by omega) (by omega) rfl ?_
  refine jT_xistore (v := (0, 1)) (LN := [(6, (0, 1)), (5, (0, 0)), (4, (4, 3)), (3, (4, 2)), (2, (4, 1)), (1, (4, 0)), (0, (6, 0))]) (pcN := 2355) jI_379_2353 rfl rfl rfl rfl ?_
  refine jT_xaload_n (v := (4, 1)) (pcN := 2356) jI_379_2355 rfl rfl rfl ?_
  refine jT_xaload_n (v := (6, 0)) (pcN := 2357) jI_379_2356 rfl rfl rfl ?_
  refine jT_xiload (v := (0, 0)) (pcN := 2359) jI_379_2357 rfl rfl rfl ?_
  refine jT_xiconst (k := 1) (pcN := 2360) jI_379_2359 rfl ?_
  refine jT_xiadd (x := 0) (y := 1) (z := 1) (pcN := 2361) jI_379_2360 rfl (by decide) rfl ?_
  refine jT_adv 1 (pcN := 2362) (LN := [(6, (0, 1)), (5, (0, 0)), (4, (4, 3)), (3, (4, 2)), (2, (4, 1)), (1, (4, 0)), (0, (6, 0))]) (stN := [(0, x1), (4, 1)]) (hsN := jpA_1933) (c1 := 0) (s1 := 0) (c2 := 0) (s2 := 0) (by exact rfl) ?_ (by omega) (by omega)
  refine jT_eq (LN := [(6, (0, 1)), (5, (0, 0)), (4, (4, 3)), (3, (4, 2)), (2, (4, 1)), (1, (4, 0)), (0, (6, 0))]) (stN := [(0, 3), (4, 1)]) (hsN := [jzA_265, jzA_266, jgh, jgh, jgh, jgh, jgh, jgh, jgh, jgh, jgh, jgh, jgh, jgh, jzA_322, (100, [], jS0), jgh, jgh, jgh, jgh, jgh, jgh, jgh, jgh, jgh, jgh, jgh, jgh, jgh, jgh, jgh, (117, [], [35, 36, 37, 38]), jgh, jgh, jgh, jgh, jgh, jgh, (7, [(4, 39), (4, (-1)), (4, (-1))], []), (114, [], [40]), jgh]) (rfl) (by simp only [List.cons.injEq, Prod.mk.injEq, and_true, true_and] <;> ((try unfold jw); (try unfold jwl); omega)) (rfl) ?_
  refine jT_xaload_n (v := (6, 0)) (pcN := 2363) jI_379_2362 rfl rfl rfl ?_
  refine jT_xiload (v := (0, 0)) (pcN := 2365) jI_379_2363 rfl rfl rfl ?_
  refine jT_xiconst (k := 2) (pcN := 2366) jI_379_2365 rfl ?_
  refine jT_xiadd (x := 0) (y := 2) (z := 2) (pcN := 2367) jI_379_2366 rfl (by decide) rfl ?_
  refine jT_adv 1 (pcN := 2368) (LN := [(6, (0, 1)), (5, (0, 0)), (4, (4, 3)), (3, (4, 2)), (2, (4, 1)), (1, (4, 0)), (0, (6, 0))]) (stN := [(0, x2), (0, 3), (4, 1)]) (hsN := jpA_1933) (c1 := 0) (s1 := 0) (c2 := 0) (s2 := 0) (by exact rfl) ?_ (by omega) (by omega)
  refine jT_xaload_n (v := (6, 0)) (pcN := 2369) jI_379_2368 rfl rfl rfl ?_
  refine jT_xiload (v := (0, 0)) (pcN := 2371) jI_379_2369 rfl rfl rfl ?_
  refine jT_xiconst (k := 3) (pcN := 2372) jI_379_2371 rfl ?_
  refine jT_xiadd (x := 0) (y := 3) (z := 3) (pcN := 2373) jI_379_2372 rfl (by decide) rfl ?_
  refine jT_adv 1 (pcN := 2374) (LN := [(6, (0, 1)), (5, (0, 0)), (4, (4, 3)), (3, (4, 2)), (2, (4, 1)), (1, (4, 0)), (0, (6, 0))]) (stN := [(0, x3), (0, x2), (0, 3), (4, 1)]) (hsN := jpA_1933) (c1 := 0) (s1 := 0) (c2 := 0) (s2 := 0) (by exact rfl) ?_ (by omega) (by omega)
  refine jT_ifF (a := x3) (t := 2381) (by rfl) (by rfl) (by rfl) (jw_idd (by omega) (by omega)) (by simp only [jcP] <;> omega) ?_
  refine jT_xiconst (k := 1) (pcN := 2378) jI_379_2377 rfl ?_
  refine jT_xgoto (pcN := 2382) jI_379_2378 rfl ?_
  refine jT_fB [1, 15, 16, 17, 18, 19, 20, 21, 22, 23, 24, 25, 26, 27, 28, 29] 41 (y := 279) (pcN := 2385) (dC := 2) (bc1 := 0) (bc2 := 0) (c1 := 0) (c2 := 0) (as := [(4, 1), (0, 3), (0, x2), (0, 1)]) (asC := [(4, 0), (0, 3), (0, x2), (0, 1)]) (LN := [(6, (0, 1)), (5, (0, 0)), (4, (4, 3)), (3, (4, 2)), (2, (4, 1)), (1, (4, 0)), (0, (6, 0))]) (stN := []) (hsC := jpA_1519) (hsD := jpA_1820) (v := (0, 0)) (st2 := [(0, 0)]) (hs2 := jpA_1934) (jA_279_953 (d := 0) (by omega)) (by rfl) (by rfl) (by decide +kernel) (by rfl) (by rfl) (by omega) (by omega) (by omega) (by omega) rfl (by decide +kernel) ?_
  refine jT_xistore (v := (0, 0)) (LN := [(7, (0, 0)), (6, (0, 1)), (5, (0, 0)), (4, (4, 3)), (3, (4, 2)), (2, (4, 1)), (1, (4, 0)), (0, (6, 0))]) (pcN := 2387) jI_379_2385 rfl rfl rfl rfl ?_
  refine jT_xaload_n (v := (4, 1)) (pcN := 2388) jI_379_2387 rfl rfl rfl ?_
  refine jT_fR [1, 15, 16, 17, 18, 19, 20, 21, 22, 23, 24, 25, 26, 27, 28, 29] 41 (y := 186) (pcN := 2391) (dC := 0) (bc1 := 0) (bc2 := 0) (c1 := 0) (c2 := 0) (as := [(4, 1)]) (asC := [(4, 0)]) (LN := [(7, (0, 0)), (6, (0, 1)), (5, (0, 0)), (4, (4, 3)), (3, (4, 2)), (2, (4, 1)), (1, (4, 0)), (0, (6, 0))]) (stN := []) (hsC := jpA_20) (v := (0, 1)) (st2 := [(0, 1)]) (jA_186_8 (d := 0)) (by rfl) (by rfl) (by decide +kernel) (by rfl) (by rfl) (by omega) (by omega) (by omega) (by omega) rfl ?_
  refine jT_xiload (v := (0, 1)) (pcN := 2393) jI_379_2391 rfl rfl rfl ?_
  refine jT_xicT (pcN := 2398) jI_379_2393 rfl (by decide +kernel) rfl ?_
  refine jT_xiload (v := (0, 1)) (pcN := 2400) jI_379_2398 rfl rfl rfl ?_
  refine jT_xifT (pcN := 2415) jI_379_2400 rfl (by decide +kernel) rfl ?_
  refine jT_xgoto (pcN := 3740) jI_379_2415 rfl ?_
  refine jT_xiinc (x := 0) (z := 5) (LN := [(5, (0, 5)), (7, (0, 0)), (6, (0, 1)), (4, (4, 3)), (3, (4, 2)), (2, (4, 1)), (1, (4, 0)), (0, (6, 0))]) (pcN := 3743) jI_379_3740 rfl rfl (by decide) rfl rfl ?_
  refine jT_xgoto (pcN := 28) jI_379_3743 rfl ?_
  refine jT_xiload (v := (0, 5)) (pcN := 30) jI_379_28 rfl rfl rfl ?_
  refine jT_xaload_n (v := (6, 0)) (pcN := 31) jI_379_30 rfl rfl rfl ?_
  refine jT_adv 1 (pcN := 32) (LN := [(5, (0, 5)), (7, (0, 0)), (6, (0, 1)), (4, (4, 3)), (3, (4, 2)), (2, (4, 1)), (1, (4, 0)), (0, (6, 0))]) (stN := [(0, 5), (0, 5)]) (hsN := jpA_1934) (c1 := 0) (s1 := 0) (c2 := 0) (s2 := 0) (by exact rfl) ?_ (by omega) (by omega)
  refine jT_xiconst (k := 5) (pcN := 33) jI_379_32 rfl ?_
  refine jT_xisub (x := 5) (y := 5) (z := 0) (pcN := 34) jI_379_33 rfl (by decide) rfl ?_
  refine jT_xicT (pcN := 3746) jI_379_34 rfl (by decide +kernel) rfl ?_
  refine jT_xiconst (k := 1) (pcN := 3747) jI_379_3746 rfl ?_
  exact jT_ret rfl (by decide) (by show 41 ≤ 41; decide) (by omega) (by omega) ⟨rfl, rfl⟩
set_option maxRecDepth 100000 in
theorem jL_30_41 {d : Nat} {x0 x1 x2 x3 x4 : Int} (h_x0 : (-2147483648) ≤ x0 ∧ x0 ≤ 2147483647) (h_x1 : 4 ≤ x1 ∧ x1 ≤ 2147483647) (h_x2 : (-2147483648) ≤ x2 ∧ x2 ≤ 2147483647) (h_x3 : 1 ≤ x3 ∧ x3 ≤ 2147483647) (h_x4 : (-2147483648) ≤ x4 ∧ x4 ≤ 2147483647) : jT [x0, x1, x2, x3, x4] (d + 3) 379 30 2322 [(5, (0, 0)), (4, (4, 3)), (3, (4, 2)), (2, (4, 1)), (1, (4, 0)), (0, (6, 0))] [] jpA_267 1 6 (fun k v hsN => k = 0 ∧ v = (0, 1)) := by
  refine jT_xaload_n (v := (4, 0)) (pcN := 2323) jI_379_2322 rfl rfl rfl ?_
  refine jT_xaload_n (v := (6, 0)) (pcN := 2324) jI_379_2323 rfl rfl rfl ?_
  refine jT_xiload (v := (0, 0)) (pcN := 2326) jI_379_2324 rfl rfl rfl ?_
  refine jT_xiconst (k := 1) (pcN := 2327) jI_379_2326 rfl ?_
  refine jT_xiadd (x := 0) (y := 1) (z := 1) (pcN := 2328) jI_379_2327 rfl (by decide) rfl ?_
  refine jT_adv 1 (pcN := 2329) (LN := [(5, (0, 0)), (4, (4, 3)), (3, (4, 2)), (2, (4, 1)), (1, (4, 0)), (0, (6, 0))]) (stN := [(0, x1), (4, 0)]) (hsN := jpA_267) (c1 := 0) (s1 := 0) (c2 := 1) (s2 := 6) (by exact rfl) ?_ (by omega) (by omega)
  refine jT_xaload_n (v := (6, 0)) (pcN := 2330) jI_379_2329 rfl rfl rfl ?_
  refine jT_xiload (v := (0, 0)) (pcN := 2332) jI_379_2330 rfl rfl rfl ?_
  refine jT_xiconst (k := 2) (pcN := 2333) jI_379_2332 rfl ?_
  refine jT_xiadd (x := 0) (y := 2) (z := 2) (pcN := 2334) jI_379_2333 rfl (by decide) rfl ?_
  refine jT_adv 1 (pcN := 2335) (LN := [(5, (0, 0)), (4, (4, 3)), (3, (4, 2)), (2, (4, 1)), (1, (4, 0)), (0, (6, 0))]) (stN := [(0, x2), (0, x1), (4, 0)]) (hsN := jpA_267) (c1 := 0) (s1 := 0) (c2 := 1) (s2 := 6) (by exact rfl) ?_ (by omega) (by omega)
  refine jT_xaload_n (v := (6, 0)) (pcN := 2336) jI_379_2335 rfl rfl rfl ?_
  refine jT_xiload (v := (0, 0)) (pcN := 2338) jI_379_2336 rfl rfl rfl ?_
  refine jT_xiconst (k := 3) (pcN := 2339) jI_379_2338 rfl ?_
  refine jT_xiadd (x := 0) (y := 3) (z := 3) (pcN := 2340) jI_379_2339 rfl (by decide) rfl ?_
  refine jT_adv 1 (pcN := 2341) (LN := [(5, (0, 0)), (4, (4, 3)), (3, (4, 2)), (2, (4, 1)), (1, (4, 0)), (0, (6, 0))]) (stN := [(0, x3), (0, x2), (0, x1), (4, 0)]) (hsN := jpA_267) (c1 := 0) (s1 := 0) (c2 := 1) (s2 := 6) (by exact rfl) ?_ (by omega) (by omega)
  refine jT_ifF (a := x3) (t := 2348) (by rfl) (by rfl) (by rfl) (jw_idd (by omega) (by omega)) (by simp only [jcP] <;> omega) ?_
  refine jT_xiconst (k := 1) (pcN := 2345) jI_379_2344 rfl ?_
  refine jT_xgoto (pcN := 2349) jI_379_2345 rfl ?_
  refine jT_xaload_n (v := (4, 2)) (pcN := 2350) jI_379_2349 rfl rfl rfl ?_
  refine jT_fR [0, 2, 4, 5, 6, 7, 8, 9, 10, 11, 12, 13, 14] 30 (y := 354) (pcN := 2353) (dC := 2) (bc1 := 1) (bc2 := 6) (c1 := 0) (c2 := 0) (as := [(4, 0), (0, x1), (0, x2), (0, 1), (4, 2)]) (asC := [(4, 0), (0, x1), (0, x2), (0, 1), (4, 1)]) (LN := [(5, (0, 0)), (4, (4, 3)), (3, (4, 2)), (2, (4, 1)), (1, (4, 0)), (0, (6, 0))]) (stN := []) (hsC := jpA_15) (v := (0, 1)) (st2 := [(0, 1)]) (jA_354_955 (d := 0) (by omega) (by omega)) (by rfl) (by rfl) (by decide +kernel) (by rfl) (by rfl) (by omega) (by omega) (by omega) (by omega) rfl ?_
  refine jT_xistore (v := (0, 1)) (LN := [(6, (0, 1)), (5, (0, 0)), (4, (4, 3)), (3, (4, 2)), (2, (4, 1)), (1, (4, 0)), (0, (6, 0))]) (pcN := 2355) jI_379_2353 rfl rfl rfl rfl ?_
  refine jT_xaload_n (v := (4, 1)) (pcN := 2356) jI_379_2355 rfl rfl rfl ?_
  refine jT_xaload_n (v := (6, 0)) (pcN := 2357) jI_379_2356 rfl rfl rfl ?_
  refine jT_xiload (v := (0, 0)) (pcN := 2359) jI_379_2357 rfl rfl rfl ?_
  refine jT_xiconst (k := 1) (pcN := 2360) jI_379_2359 rfl ?_
  refine jT_xiadd (x := 0) (y := 1) (z := 1) (pcN := 2361) jI_379_2360 rfl (by decide) rfl ?_
  refine jT_adv 1 (pcN := 2362) (LN := [(6, (0, 1)), (5, (0, 0)), (4, (4, 3)), (3, (4, 2)), (2, (4, 1)), (1, (4, 0)), (0, (6, 0))]) (stN := [(0, x1), (4, 1)]) (hsN := jpA_267) (c1 := 0) (s1 := 0) (c2 := 0) (s2 := 0) (by exact rfl) ?_ (by omega) (by omega)
  refine jT_xaload_n (v := (6, 0)) (pcN := 2363) jI_379_2362 rfl rfl rfl ?_
  refine jT_xiload (v := (0, 0)) (pcN := 2365) jI_379_2363 rfl rfl rfl ?_
  refine jT_xiconst (k := 2) (pcN := 2366) jI_379_2365 rfl ?_
  refine jT_xiadd (x := 0) (y := 2) (z := 2) (pcN := 2367) jI_379_2366 rfl (by decide) rfl ?_
  refine jT_adv 1 (pcN := 2368) (LN := [(6, (0, 1)), (5, (0, 0)), (4, (4, 3)), (3, (4, 2)), (2, (4, 1)), (1, (4, 0)), (0, (6, 0))]) (stN := [(0, x2), (0, x1), (4, 1)]) (hsN := jpA_267) (c1 := 0) (s1 := 0) (c2 := 0) (s2 := 0) (by exact rfl) ?_ (by omega) (by omega)
  refine jT_xaload_n (v := (6, 0)) (pcN := 2369) jI_379_2368 rfl rfl rfl ?_
  refine jT_xiload (v := (0, 0)) (pcN := 2371) jI_379_2369 rfl rfl rfl ?_
  refine jT_xiconst (k := 3) (pcN := 2372) jI_379_2371 rfl ?_
  refine jT_xiadd (x := 0) (y := 3) (z := 3) (pcN := 2373) jI_379_2372 rfl (by decide) rfl ?_
  refine jT_adv 1 (pcN := 2374) (LN := [(6, (0, 1)), (5, (0, 0)), (4, (4, 3)), (3, (4, 2)), (2, (4, 1)), (1, (4, 0)), (0, (6, 0))]) (stN := [(0, x3), (0, x2), (0, x1), (4, 1)]) (hsN := jpA_267) (c1 := 0) (s1 := 0) (c2 := 0) (s2 := 0) (by exact rfl) ?_ (by omega) (by omega)
  refine jT_ifF (a := x3) (t := 2381) (by rfl) (by rfl) (by rfl) (jw_idd (by omega) (by omega)) (by simp only [jcP] <;> omega) ?_
  refine jT_xiconst (k := 1) (pcN := 2378) jI_379_2377 rfl ?_
  refine jT_xgoto (pcN := 2382) jI_379_2378 rfl ?_
  refine jT_fB [1, 15, 16, 17, 18, 19, 20, 21, 22, 23, 24, 25, 26, 27, 28, 29] 30 (y := 279) (pcN := 2385) (dC := 2) (bc1 := 0) (bc2 := 0) (c1 := 0) (c2 := 0) (as := [(4, 1), (0, x1), (0, x2), (0, 1)]) (asC := [(4, 0), (0, x1), (0, x2), (0, 1)]) (LN := [(6, (0, 1)), (5, (0, 0)), (4, (4, 3)), (3, (4, 2)), (2, (4, 1)), (1, (4, 0)), (0, (6, 0))]) (stN := []) (hsC := jpA_22) (hsD := jpA_20) (v := (0, 0)) (st2 := [(0, 0)]) (hs2 := jpA_306) (jA_279_956 (d := 0) (by omega) (by omega)) (by rfl) (by rfl) (by decide +kernel) (by rfl) (by rfl) (by omega) (by omega) (by omega) (by omega) rfl (by decide +kernel) ?_
  refine jT_xistore (v := (0, 0)) (LN := [(7, (0, 0)), (6, (0, 1)), (5, (0, 0)), (4, (4, 3)), (3, (4, 2)), (2, (4, 1)), (1, (4, 0)), (0, (6, 0))]) (pcN := 2387) jI_379_2385 rfl rfl rfl rfl ?_
  refine jT_xaload_n (v := (4, 1)) (pcN := 2388) jI_379_2387 rfl rfl rfl ?_
  refine jT_fR [1, 15, 16, 17, 18, 19, 20, 21, 22, 23, 24, 25, 26, 27, 28, 29] 30 (y := 186) (pcN := 2391) (dC := 0) (bc1 := 0) (bc2 := 0) (c1 := 0) (c2 := 0) (as := [(4, 1)]) (asC := [(4, 0)]) (LN := [(7, (0, 0)), (6, (0, 1)), (5, (0, 0)), (4, (4, 3)), (3, (4, 2)), (2, (4, 1)), (1, (4, 0)), (0, (6, 0))]) (stN := []) (hsC := jpA_20) (v := (0, 1)) (st2 := [(0, 1)]) (jA_186_8 (d := 0)) (by rfl) (by rfl) (by decide +kernel) (by rfl) (by rfl) (by omega) (by omega) (by omega) (by omega) rfl ?_
  refine jT_xiload (v := (0, 1)) (pcN := 2393) jI_379_2391 rfl rfl rfl ?_
  refine jT_xicT (pcN := 2398) jI_379_2393 rfl (by decide +kernel) rfl ?_
  refine jT_xiload (v := (0, 1)) (pcN := 2400) jI_379_2398 rfl rfl rfl ?_
  refine jT_xifT (pcN := 2415) jI_379_2400 rfl (by decide +kernel) rfl ?_
  refine jT_xgoto (pcN := 3740) jI_379_2415 rfl ?_
  refine jT_xiinc (x := 0) (z := 5) (LN := [(5, (0, 5)), (7, (0, 0)), (6, (0, 1)), (4, (4, 3)), (3, (4, 2)), (2, (4, 1)), (1, (4, 0)), (0, (6, 0))]) (pcN := 3743) jI_379_3740 rfl rfl (by decide) rfl rfl ?_
  refine jT_xgoto (pcN := 28) jI_379_3743 rfl ?_
  refine jT_xiload (v := (0, 5)) (pcN := 30) jI_379_28 rfl rfl rfl ?_
  refine jT_xaload_n (v := (6, 0)) (pcN := 31) jI_379_30 rfl rfl rfl ?_
  refine jT_adv 1 (pcN := 32) (LN := [(5, (0, 5)), (7, (0, 0)), (6, (0, 1)), (4, (4, 3)), (3, (4, 2)), (2, (4, 1)), (1, (4, 0)), (0, (6, 0))]) (stN := [(0, 5), (0, 5)]) (hsN := jpA_306) (c1 := 0) (s1 := 0) (c2 := 0) (s2 := 0) (by exact rfl) ?_ (by omega) (by omega)
  refine jT_xiconst (k := 5) (pcN := 33) jI_379_32 rfl ?_
  refine jT_xisub (x := 5) (y := 5) (z := 0) (pcN := 34) jI_379_33 rfl (by decide) rfl ?_
  refine jT_xicT (pcN := 3746) jI_379_34 rfl (by decide +kernel) rfl ?_
  refine jT_xiconst (k := 1) (pcN := 3747) jI_379_3746 rfl ?_
  exact jT_ret rfl (by decide) (by show 30 ≤ 30; decide) (by omega) (by omega) ⟨rfl, rfl⟩
