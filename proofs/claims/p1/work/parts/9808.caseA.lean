/-! the law, case by case: 29 -/
theorem jI_148_0 : jmI (jm 148) 0 = (.aload_n 0, 1) := by rfl
theorem jI_148_1 : jmI (jm 148) 1 = (.iload_n 1, 1) := by rfl
theorem jI_148_2 : jmI (jm 148) 2 = (.iconst 4, 1) := by rfl
theorem jA_148_859 {xs : List Int} {d : Nat} {x1 x2 : Int} (h_x1 : (-2147483648) ≤ x1 ∧ x1 ≤ (-1)) (h_x2 : (-2147483648) ≤ x2 ∧ x2 ≤ 2147483647) : jT xs (d + 1) 148 12 0 [(0, (4, 0)), (1, (0, x1)), (2, (0, x2))] [] jpA_6 1 6 (fun k v hsN => k = 1 ∧ v = (0, 0) ∧ hsN = jpA_6 ++ []) := by
  refine jT_xaload_n (v := (4, 0)) (pcN := 1) jI_148_0 rfl rfl rfl ?_
  refine jT_xiload_n (v := (0, x1)) (pcN := 2) jI_148_1 rfl rfl rfl ?_
  refine jT_xiconst (k := 4) (pcN := 3) jI_148_2 rfl ?_
  exact jT_fX [0] 12 (y := 115) (pcN := 6) (dC := 0) (bc1 := 1) (bc2 := 6) (as := [(4, 0), (0, x1), (0, 4)]) (asC := [(4, 0), (0, x1), (0, 4)]) (LN := [(0, (4, 0)), (1, (0, x1)), (2, (0, x2))]) (stN := []) (hsC := [jgh]) (e := 0) (jA_115_310 (d := 0) (by omega)) (by rfl) (by rfl) (by decide +kernel) (by rfl) (by rfl) (by omega) (by omega) (by omega) (by omega) ⟨rfl, ⟨rfl, rfl, rfl⟩⟩
theorem jI_353_0 : jmI (jm 353) 0 = (.aload_n 3, 1) := by rfl
theorem jI_353_1 : jmI (jm 353) 1 = (.iconst 0, 1) := by rfl
theorem jI_353_2 : jmI (jm 353) 2 = (.aload_n 0, 1) := by rfl
theorem jI_353_3 : jmI (jm 353) 3 = (.iload_n 1, 1) := by rfl
theorem jI_353_4 : jmI (jm 353) 4 = (.iload_n 2, 1) := by rfl
theorem jA_353_860 {xs : List Int} {d : Nat} {x1 x2 : Int} (h_x1 : (-2147483648) ≤ x1 ∧ x1 ≤ (-1)) (h_x2 : (-2147483648) ≤ x2 ∧ x2 ≤ 2147483647) : jT xs (d + 2) 353 13 0 [(0, (4, 0)), (1, (0, x1)), (2, (0, x2)), (3, (4, 1))] [] jpA_15 1 6 (fun k v hsN => k = 0 ∧ v = (0, 1) ∧ hsN = jpA_15 ++ []) := by
  refine jT_xaload_n (v := (4, 1)) (pcN := 1) jI_353_0 rfl rfl rfl ?_
  refine jT_xiconst (k := 0) (pcN := 2) jI_353_1 rfl ?_
  refine jT_xaload_n (v := (4, 0)) (pcN := 3) jI_353_2 rfl rfl rfl ?_
  refine jT_xiload_n (v := (0, x1)) (pcN := 4) jI_353_3 rfl rfl rfl ?_
  refine jT_xiload_n (v := (0, x2)) (pcN := 5) jI_353_4 rfl rfl rfl ?_
  exact jT_fX [0, 2, 3, 4, 5, 6, 7, 8, 9, 10, 11, 12] 13 (y := 148) (pcN := 8) (dC := 1) (bc1 := 1) (bc2 := 6) (as := [(4, 0), (0, x1), (0, x2)]) (asC := [(4, 0), (0, x1), (0, x2)]) (LN := [(0, (4, 0)), (1, (0, x1)), (2, (0, x2)), (3, (4, 1))]) (stN := [(0, 0), (4, 1)]) (hsC := jpA_6) (e := 0) (jA_148_859 (d := 0) (by omega) (by omega)) (by rfl) (by rfl) (by decide +kernel) (by rfl) (by rfl) (by omega) (by omega) (by omega) (by omega) (show _ from ⟨rfl, rfl, rfl⟩)
theorem jI_278_0 : jmI (jm 278) 0 = (.aload_n 0, 1) := by rfl
theorem jI_278_1 : jmI (jm 278) 1 = (.iload_n 1, 1) := by rfl
theorem jI_278_5 : jmI (jm 278) 5 = (.ifCond .eq 14, 3) := by rfl
theorem jI_278_19 : jmI (jm 278) 19 = (.iconst 0, 1) := by rfl
theorem jI_278_23 : jmI (jm 278) 23 = (.ifCond .eq 5, 3) := by rfl
theorem jI_278_26 : jmI (jm 278) 26 = (.iconst 0, 1) := by rfl
theorem jA_278_861 {xs : List Int} {d : Nat} {x1 x2 : Int} (h_x1 : (-2147483648) ≤ x1 ∧ x1 ≤ (-1)) (h_x2 : (-2147483648) ≤ x2 ∧ x2 ≤ 2147483647) : jT xs (d + 2) 278 16 0 [(0, (4, 0)), (1, (0, x1)), (2, (0, x2))] [] jpA_22 0 0 (fun k v hsN => k = 0 ∧ v = (0, 0) ∧ hsN = jpA_20) := by
  refine jT_xaload_n (v := (4, 0)) (pcN := 1) jI_278_0 rfl rfl rfl ?_
  refine jT_xiload_n (v := (0, x1)) (pcN := 2) jI_278_1 rfl rfl rfl ?_
  refine jT_fR [] 16 (y := 238) (pcN := 5) (dC := 1) (bc1 := 0) (bc2 := 0) (c1 := 0) (c2 := 0) (as := [(0, x1)]) (asC := [(0, x1)]) (LN := [(0, (4, 0)), (1, (0, x1)), (2, (0, x2))]) (stN := [(4, 0)]) (hsC := []) (v := (0, 0)) (st2 := [(0, 0), (4, 0)]) (jA_238_313 (d := 0) (by omega)) (by rfl) (by rfl) (by decide +kernel) (by rfl) (by rfl) (by omega) (by omega) (by omega) (by omega) rfl ?_
  refine jT_xifT (pcN := 19) jI_278_5 rfl (by decide +kernel) rfl ?_
  refine jT_xiconst (k := 0) (pcN := 20) jI_278_19 rfl ?_
  refine jT_fB [0, 1, 2, 3, 4, 5, 6, 7, 8, 9, 10, 11, 12, 13, 14, 15] 16 (y := 190) (pcN := 23) (dC := 1) (bc1 := 0) (bc2 := 0) (c1 := 0) (c2 := 0) (as := [(4, 0), (0, 0)]) (asC := [(4, 0), (0, 0)]) (LN := [(0, (4, 0)), (1, (0, x1)), (2, (0, x2))]) (stN := []) (hsC := jpA_22) (hsD := jpA_20) (v := (0, 1)) (st2 := [(0, 1)]) (hs2 := jpA_20) (jA_190_6 (d := 0)) (by rfl) (by rfl) (by decide +kernel) (by rfl) (by rfl) (by omega) (by omega) (by omega) (by omega) rfl (by decide +kernel) ?_
  refine jT_xifF (t := 28) (pcN := 26) jI_278_23 rfl (by decide +kernel) rfl rfl ?_
  refine jT_xiconst (k := 0) (pcN := 27) jI_278_26 rfl ?_
  exact jT_ret rfl (by decide) (by show 16 ≤ 16; decide) (by omega) (by omega) ⟨rfl, rfl, rfl⟩
theorem jI_148_6 : jmI (jm 148) 6 = (.aload_n 0, 1) := by rfl
theorem jI_148_7 : jmI (jm 148) 7 = (.iload_n 2, 1) := by rfl
theorem jI_148_8 : jmI (jm 148) 8 = (.bipush 8, 2) := by rfl
theorem jA_148_862 {xs : List Int} {d : Nat} {x1 x2 : Int} (h_x1 : 0 ≤ x1 ∧ x1 ≤ 3) (h_x2 : (-2147483648) ≤ x2 ∧ x2 ≤ (-1)) : jT xs (d + 1) 148 12 0 [(0, (4, 0)), (1, (0, x1)), (2, (0, x2))] [] jpA_6 1 6 (fun k v hsN => k = 1 ∧ v = (0, 0) ∧ hsN = jpA_6 ++ []) := by
  refine jT_xaload_n (v := (4, 0)) (pcN := 1) jI_148_0 rfl rfl rfl ?_
  refine jT_xiload_n (v := (0, x1)) (pcN := 2) jI_148_1 rfl rfl rfl ?_
  refine jT_xiconst (k := 4) (pcN := 3) jI_148_2 rfl ?_
  refine jT_fR [0] 12 (y := 115) (pcN := 6) (dC := 0) (bc1 := 0) (bc2 := 0) (c1 := 1) (c2 := 6) (as := [(4, 0), (0, x1), (0, 4)]) (asC := [(4, 0), (0, x1), (0, 4)]) (LN := [(0, (4, 0)), (1, (0, x1)), (2, (0, x2))]) (stN := []) (hsC := [jgh]) (v := (9, 0)) (st2 := []) (jA_115_315 (d := 0) (by omega)) (by rfl) (by rfl) (by decide +kernel) (by rfl) (by rfl) (by omega) (by omega) (by omega) (by omega) rfl ?_
  refine jT_xaload_n (v := (4, 0)) (pcN := 7) jI_148_6 rfl rfl rfl ?_
  refine jT_xiload_n (v := (0, x2)) (pcN := 8) jI_148_7 rfl rfl rfl ?_
  refine jT_xbipush (k := 8) (pcN := 10) jI_148_8 (by decide) rfl ?_
  exact jT_fX [0] 12 (y := 115) (pcN := 13) (dC := 0) (bc1 := 1) (bc2 := 6) (as := [(4, 0), (0, x2), (0, 8)]) (asC := [(4, 0), (0, x2), (0, 8)]) (LN := [(0, (4, 0)), (1, (0, x1)), (2, (0, x2))]) (stN := []) (hsC := [jgh]) (e := 0) (jA_115_10 (d := 0) (by omega)) (by rfl) (by rfl) (by decide +kernel) (by rfl) (by rfl) (by omega) (by omega) (by omega) (by omega) ⟨rfl, ⟨rfl, rfl, rfl⟩⟩
theorem jA_353_863 {xs : List Int} {d : Nat} {x1 x2 : Int} (h_x1 : 0 ≤ x1 ∧ x1 ≤ 3) (h_x2 : (-2147483648) ≤ x2 ∧ x2 ≤ (-1)) : jT xs (d + 2) 353 13 0 [(0, (4, 0)), (1, (0, x1)), (2, (0, x2)), (3, (4, 1))] [] jpA_15 1 6 (fun k v hsN => k = 0 ∧ v = (0, 1) ∧ hsN = jpA_15 ++ []) := by
  refine jT_xaload_n (v := (4, 1)) (pcN := 1) jI_353_0 rfl rfl rfl ?_
  refine jT_xiconst (k := 0) (pcN := 2) jI_353_1 rfl ?_
  refine jT_xaload_n (v := (4, 0)) (pcN := 3) jI_353_2 rfl rfl rfl ?_
  refine jT_xiload_n (v := (0, x1)) (pcN := 4) jI_353_3 rfl rfl rfl ?_
  refine jT_xiload_n (v := (0, x2)) (pcN := 5) jI_353_4 rfl rfl rfl ?_
  exact jT_fX [0, 2, 3, 4, 5, 6, 7, 8, 9, 10, 11, 12] 13 (y := 148) (pcN := 8) (dC := 1) (bc1 := 1) (bc2 := 6) (as := [(4, 0), (0, x1), (0, x2)]) (asC := [(4, 0), (0, x1), (0, x2)]) (LN := [(0, (4, 0)), (1, (0, x1)), (2, (0, x2)), (3, (4, 1))]) (stN := [(0, 0), (4, 1)]) (hsC := jpA_6) (e := 0) (jA_148_862 (d := 0) (by omega) (by omega)) (by rfl) (by rfl) (by decide +kernel) (by rfl) (by rfl) (by omega) (by omega) (by omega) (by omega) (show _ from ⟨rfl, rfl, rfl⟩)
theorem jI_278_8 : jmI (jm 278) 8 = (.iload_n 2, 1) := by rfl
theorem jI_278_12 : jmI (jm 278) 12 = (.ifCond .eq 7, 3) := by rfl
theorem jA_278_864 {xs : List Int} {d : Nat} {x1 x2 : Int} (h_x1 : 0 ≤ x1 ∧ x1 ≤ 3) (h_x2 : (-2147483648) ≤ x2 ∧ x2 ≤ (-1)) : jT xs (d + 2) 278 16 0 [(0, (4, 0)), (1, (0, x1)), (2, (0, x2))] [] jpA_22 0 0 (fun k v hsN => k = 0 ∧ v = (0, 0) ∧ hsN = jpA_20) := by
  refine jT_xaload_n (v := (4, 0)) (pcN := 1) jI_278_0 rfl rfl rfl ?_
  refine jT_xiload_n (v := (0, x1)) (pcN := 2) jI_278_1 rfl rfl rfl ?_
  refine jT_fR [] 16 (y := 238) (pcN := 5) (dC := 1) (bc1 := 0) (bc2 := 0) (c1 := 0) (c2 := 0) (as := [(0, x1)]) (asC := [(0, x1)]) (LN := [(0, (4, 0)), (1, (0, x1)), (2, (0, x2))]) (stN := [(4, 0)]) (hsC := []) (v := (0, 1)) (st2 := [(0, 1), (4, 0)]) (jA_238_318 (d := 0) (by omega)) (by rfl) (by rfl) (by decide +kernel) (by rfl) (by rfl) (by omega) (by omega) (by omega) (by omega) rfl ?_
  refine jT_xifF (t := 19) (pcN := 8) jI_278_5 rfl (by decide +kernel) rfl rfl ?_
  refine jT_xiload_n (v := (0, x2)) (pcN := 9) jI_278_8 rfl rfl rfl ?_
  refine jT_fR [] 16 (y := 188) (pcN := 12) (dC := 1) (bc1 := 0) (bc2 := 0) (c1 := 0) (c2 := 0) (as := [(0, x2)]) (asC := [(0, x2)]) (LN := [(0, (4, 0)), (1, (0, x1)), (2, (0, x2))]) (stN := [(4, 0)]) (hsC := []) (v := (0, 0)) (st2 := [(0, 0), (4, 0)]) (jA_188_14 (d := 0) (by omega)) (by rfl) (by rfl) (by decide +kernel) (by rfl) (by rfl) (by omega) (by omega) (by omega) (by omega) rfl ?_
  refine jT_xifT (pcN := 19) jI_278_12 rfl (by decide +kernel) rfl ?_
  refine jT_xiconst (k := 0) (pcN := 20) jI_278_19 rfl ?_
  refine jT_fB [0, 1, 2, 3, 4, 5, 6, 7, 8, 9, 10, 11, 12, 13, 14, 15] 16 (y := 190) (pcN := 23) (dC := 1) (bc1 := 0) (bc2 := 0) (c1 := 0) (c2 := 0) (as := [(4, 0), (0, 0)]) (asC := [(4, 0), (0, 0)]) (LN := [(0, (4, 0)), (1, (0, x1)), (2, (0, x2))]) (stN := []) (hsC := jpA_22) (hsD := jpA_20) (v := (0, 1)) (st2 := [(0, 1)]) (hs2 := jpA_20) (jA_190_6 (d := 0)) (by rfl) (by rfl) (by decide +kernel) (by rfl) (by rfl) (by omega) (by omega) (by omega) (by omega) rfl (by decide +kernel) ?_
  refine jT_xifF (t := 28) (pcN := 26) jI_278_23 rfl (by decide +kernel) rfl rfl ?_
  refine jT_xiconst (k := 0) (pcN := 27) jI_278_26 rfl ?_
  exact jT_ret rfl (by decide) (by show 16 ≤ 16; decide) (by omega) (by omega) ⟨rfl, rfl, rfl⟩
theorem jI_148_13 : jmI (jm 148) 13 = (.aload_n 0, 1) := by rfl
theorem jI_148_14 : jmI (jm 148) 14 = (.getfield 67, 3) := by rfl
theorem jI_148_17 : jmI (jm 148) 17 = (.iload_n 1, 1) := by rfl
theorem jI_148_21 : jmI (jm 148) 21 = (.aload_n 0, 1) := by rfl
theorem jI_148_22 : jmI (jm 148) 22 = (.aload_n 0, 1) := by rfl
theorem jI_148_23 : jmI (jm 148) 23 = (.getfield 67, 3) := by rfl
theorem jI_148_26 : jmI (jm 148) 26 = (.iload_n 2, 1) := by rfl
theorem jI_148_30 : jmI (jm 148) 30 = (.iconst 1, 1) := by rfl
theorem jI_148_34 : jmI (jm 148) 34 = (.aload_n 0, 1) := by rfl
theorem jI_148_35 : jmI (jm 148) 35 = (.getfield 10, 3) := by rfl
theorem jA_148_865 {xs : List Int} {d : Nat} {x2 : Int} (h_x2 : 0 ≤ x2 ∧ x2 ≤ 7) : jT xs (d + 5) 148 26 0 [(0, (4, 0)), (1, (0, 0)), (2, (0, x2))] [] jpA_1682 2 8 (fun k v hsN => k = 0 ∧ v = (0, 0) ∧ hsN = jpA_1682 ++ [(101, [], [0, 0, 0, 0, 0, 0]), (4, [(4, 26), (1, 1)], [])]) := by
  refine jT_xaload_n (v := (4, 0)) (pcN := 1) jI_148_0 rfl rfl rfl ?_
  refine jT_xiload_n (v := (0, 0)) (pcN := 2) jI_148_1 rfl rfl rfl ?_
  refine jT_xiconst (k := 4) (pcN := 3) jI_148_2 rfl ?_
  refine jT_fR [0] 26 (y := 115) (pcN := 6) (dC := 0) (bc1 := 0) (bc2 := 0) (c1 := 2) (c2 := 8) (as := [(4, 0), (0, 0), (0, 4)]) (asC := [(4, 0), (0, 0), (0, 4)]) (LN := [(0, (4, 0)), (1, (0, 0)), (2, (0, x2))]) (stN := []) (hsC := [jgh]) (v := (9, 0)) (st2 := []) (jA_115_321 (d := 0)) (by rfl) (by rfl) (by decide +kernel) (by rfl) (by rfl) (by omega) (by omega) (by omega) (by omega) rfl ?_
  refine jT_xaload_n (v := (4, 0)) (pcN := 7) jI_148_6 rfl rfl rfl ?_
  refine jT_xiload_n (v := (0, x2)) (pcN := 8) jI_148_7 rfl rfl rfl ?_
  refine jT_xbipush (k := 8) (pcN := 10) jI_148_8 (by decide) rfl ?_
  refine jT_fR [0] 26 (y := 115) (pcN := 13) (dC := 0) (bc1 := 0) (bc2 := 0) (c1 := 2) (c2 := 8) (as := [(4, 0), (0, x2), (0, 8)]) (asC := [(4, 0), (0, x2), (0, 8)]) (LN := [(0, (4, 0)), (1, (0, 0)), (2, (0, x2))]) (stN := []) (hsC := [jgh]) (v := (9, 0)) (st2 := []) (jA_115_16 (d := 0) (by omega)) (by rfl) (by rfl) (by decide +kernel) (by rfl) (by rfl) (by omega) (by omega) (by omega) (by omega) rfl ?_
  refine jT_xaload_n (v := (4, 0)) (pcN := 14) jI_148_13 rfl rfl rfl ?_
  refine jT_xgetf (a := 0) (t := 1) (ci := 13) (fi := 11) (c := jzA_5) (v := (4, 11)) (pcN := 17) jI_148_14 rfl rfl rfl rfl rfl rfl rfl ?_
  refine jT_xiload_n (v := (0, 0)) (pcN := 18) jI_148_17 rfl rfl rfl ?_
  refine jT_fR [11, 14, 15, 16, 17, 18, 20, 21, 22, 23] 26 (y := 56) (pcN := 21) (dC := 0) (bc1 := 0) (bc2 := 0) (c1 := 2) (c2 := 8) (as := [(4, 11), (0, 0)]) (asC := [(4, 0), (0, 0)]) (LN := [(0, (4, 0)), (1, (0, 0)), (2, (0, x2))]) (stN := []) (hsC := jpA_1446) (v := (4, 6)) (st2 := [(4, 20)]) (jA_56_322 (d := 0)) (by rfl) (by rfl) (by decide +kernel) (by rfl) (by rfl) (by omega) (by omega) (by omega) (by omega) rfl ?_
  refine jT_xaload_n (v := (4, 0)) (pcN := 22) jI_148_21 rfl rfl rfl ?_
  refine jT_xaload_n (v := (4, 0)) (pcN := 23) jI_148_22 rfl rfl rfl ?_
  refine jT_xgetf (a := 0) (t := 1) (ci := 13) (fi := 11) (c := jzA_5) (v := (4, 11)) (pcN := 26) jI_148_23 rfl rfl rfl rfl rfl rfl rfl ?_
  refine jT_xiload_n (v := (0, x2)) (pcN := 27) jI_148_26 rfl rfl rfl ?_
  refine jT_fR [11, 14, 15, 16, 17, 18, 19] 26 (y := 57) (pcN := 30) (dC := 0) (bc1 := 0) (bc2 := 0) (c1 := 2) (c2 := 8) (as := [(4, 11), (0, x2)]) (asC := [(4, 0), (0, x2)]) (LN := [(0, (4, 0)), (1, (0, 0)), (2, (0, x2))]) (stN := [(4, 0), (4, 20)]) (hsC := jpA_47) (v := (4, 6)) (st2 := [(4, 19), (4, 0), (4, 20)]) (jA_57_24 (d := 0) (by omega)) (by rfl) (by rfl) (by decide +kernel) (by rfl) (by rfl) (by omega) (by omega) (by omega) (by omega) rfl ?_
  refine jT_xiconst (k := 1) (pcN := 31) jI_148_30 rfl ?_
  refine jT_fA [0, 19, 1, 2, 3, 4, 5, 6, 7, 8, 9, 10, 11, 24, 12, 13] 26 (y := 127) (pcN := 34) (dC := 3) (bc1 := 2) (bc2 := 8) (c1 := 0) (c2 := 0) (as := [(4, 0), (4, 19), (0, 1)]) (asC := [(4, 0), (4, 1), (0, 1)]) (LN := [(0, (4, 0)), (1, (0, 0)), (2, (0, x2))]) (stN := [(4, 20)]) (hsC := jpA_1447) (ex := [(101, [], [0, 0, 0, 0, 0, 0]), (4, [(4, 16), (1, 1)], [])]) (v := (4, 17)) (st2 := [(4, 27), (4, 20)]) (hs2 := jpA_1676) (jA_127_323 (d := 0)) (by rfl) (by rfl) (by decide +kernel) (by rfl) (by rfl) (by omega) (by omega) (by omega) (by omega) rfl (by decide +kernel) ?_
  refine jT_xaload_n (v := (4, 0)) (pcN := 35) jI_148_34 rfl rfl rfl ?_
  refine jT_xgetf (a := 0) (t := 1) (ci := 13) (fi := 0) (c := jzA_5) (v := (4, 1)) (pcN := 38) jI_148_35 rfl rfl rfl rfl rfl rfl rfl ?_
  refine jT_fR [20, 27, 1, 25, 26, 12, 13, 19, 24] 28 (y := 33) (pcN := 41) (dC := 4) (bc1 := 0) (bc2 := 0) (c1 := 0) (c2 := 0) (as := [(4, 20), (4, 27), (4, 1)]) (asC := [(4, 0), (4, 1), (4, 2)]) (LN := [(0, (4, 0)), (1, (0, 0)), (2, (0, x2))]) (stN := []) (hsC := jpA_1451) (v := (0, 0)) (st2 := [(0, 0)]) (jA_33_328 (d := 0)) (by rfl) (by rfl) (by decide +kernel) (by rfl) (by rfl) (by omega) (by omega) (by omega) (by omega) rfl ?_
  exact jT_ret rfl (by decide) (by show 26 ≤ 28; decide) (by omega) (by omega) ⟨rfl, rfl, rfl⟩
def jpA_3493 : List JC := [jzA_14, (101, [], [0]), (8, [(4, 13), (4, 14)], []), jgh, jgh, jgh, jgh, jgh, jgh, (101, [], [0, 0, 0, 0, 0, 0]), jgh, jgh, jzA_659, jgh, (101, [], [0, 0, 0, 0, 0, 0]), jzA_660, (117, [], [21, 22, 23, 24]), jgh, jgh, jgh, (4, [(4, 25), (1, 1)], []), (7, [(4, 26), (4, (-1)), (4, (-1))], []), jgh, jgh, jgh, (101, [], [0, 0, 0, 0, 0, 0]), (114, [], [20]), (101, [], [0, 0, 0, 0, 0, 0]), (4, [(4, 27), (1, 1)], [])]
theorem jI_353_8 : jmI (jm 353) 8 = (.i2l, 1) := by rfl
theorem jI_353_10 : jmI (jm 353) 10 = (.goto 7, 3) := by rfl
theorem jI_353_17 : jmI (jm 353) 17 = (.iconst 0, 1) := by rfl
def jpA_3497 : List JC := [jzA_14, (101, [], [0]), (8, [(4, 13), (4, 14)], []), jgh, jgh, jgh, jgh, jgh, jgh, (101, [], [0, 0, 0, 0, 0, 0]), jgh, jgh, jzA_659, jgh, (101, [], [0, 0, 0, 0, 0, 0]), jzA_660, (117, [], [21, 22, 23, 24]), jgh, jgh, jgh, (4, [(4, 25), (1, 1)], []), (7, [(4, 26), (4, (-1)), (4, (-1))], []), jgh, jgh, jgh, (101, [], [0, 0, 0, 0, 0, 0]), (114, [], [20])]
theorem jA_353_866 {xs : List Int} {d : Nat} {x2 : Int} (h_x2 : 0 ≤ x2 ∧ x2 ≤ 7) : jT xs (d + 6) 353 27 0 [(0, (4, 0)), (1, (0, 0)), (2, (0, x2)), (3, (4, 1))] [] jpA_3497 2 8 (fun k v hsN => k = 0 ∧ v = (0, 0) ∧ hsN = jpA_3497 ++ [(101, [], [0, 0, 0, 0, 0, 0]), (4, [(4, 27), (1, 1)], [])]) := by
  refine jT_xaload_n (v := (4, 1)) (pcN := 1) jI_353_0 rfl rfl rfl ?_
  refine jT_xiconst (k := 0) (pcN := 2) jI_353_1 rfl ?_
  refine jT_xaload_n (v := (4, 0)) (pcN := 3) jI_353_2 rfl rfl rfl ?_
  refine jT_xiload_n (v := (0, 0)) (pcN := 4) jI_353_3 rfl rfl rfl ?_
  refine jT_xiload_n (v := (0, x2)) (pcN := 5) jI_353_4 rfl rfl rfl ?_
  refine jT_fA [0, 2, 3, 4, 5, 6, 7, 8, 9, 10, 11, 12, 13, 14, 15, 16, 17, 18, 19, 20, 21, 22, 23, 24, 25, 26] 27 (y := 148) (pcN := 8) (dC := 5) (bc1 := 2) (bc2 := 8) (c1 := 0) (c2 := 0) (as := [(4, 0), (0, 0), (0, x2)]) (asC := [(4, 0), (0, 0), (0, x2)]) (LN := [(0, (4, 0)), (1, (0, 0)), (2, (0, x2)), (3, (4, 1))]) (stN := [(0, 0), (4, 1)]) (hsC := jpA_1682) (ex := [(101, [], [0, 0, 0, 0, 0, 0]), (4, [(4, 26), (1, 1)], [])]) (v := (0, 0)) (st2 := [(0, 0), (0, 0), (4, 1)]) (hs2 := jpA_3493) (jA_148_865 (d := 0) (by omega)) (by rfl) (by rfl) (by decide +kernel) (by rfl) (by rfl) (by omega) (by omega) (by omega) (by omega) rfl (by decide +kernel) ?_
  refine jT_xi2l (x := 0) (z := 0) (pcN := 9) jI_353_8 rfl (by decide +kernel) rfl ?_
  refine jT_adv 1 (pcN := 10) (LN := [(0, (4, 0)), (1, (0, 0)), (2, (0, x2)), (3, (4, 1))]) (stN := []) (hsN := jpA_3493) (c1 := 0) (s1 := 0) (c2 := 0) (s2 := 0) (by exact rfl) ?_ (by omega) (by omega)
  refine jT_xgoto (pcN := 17) jI_353_10 rfl ?_
  refine jT_xiconst (k := 0) (pcN := 18) jI_353_17 rfl ?_
  exact jT_ret rfl (by decide) (by show 27 ≤ 29; decide) (by omega) (by omega) ⟨rfl, rfl, rfl⟩
theorem jA_240_867 {xs : List Int} {d : Nat} : jT xs (d + 2) 240 16 0 [(0, (4, 0)), (1, (4, 1)), (2, (0, 57))] [] jpA_130 1 6 (fun k v hsN => k = 0 ∧ v = (0, 0) ∧ hsN = jpA_130 ++ [(101, [], [0, 0, 0, 0, 0, 0])]) := by
  refine jT_advK 18 (pcN := 30) (LN := [(4, (0, 0)), (3, (4, 16)), (0, (4, 0)), (1, (4, 1)), (2, (0, 57))]) (stN := [(0, 63), (4, 1), (1, 0), (0, 0), (4, 16)]) (hsN := jpA_2985) (c1 := 1) (s1 := 6) (c2 := 0) (s2 := 0) (by decide +kernel) ?_ (by omega) (by omega)
  refine jT_iald (x := 1) (a := 1) (j := 63) (fs := []) (X := jS0) (by rfl) (by rfl) (by rfl) (by rfl) (by decide +kernel) ?_
  refine jT_eq (LN := [(4, (0, 0)), (3, (4, 16)), (0, (4, 0)), (1, (4, 1)), (2, (0, 57))]) (stN := [(0, 1), (1, 0), (0, 0), (4, 16)]) (hsN := jpA_2985) rfl rfl rfl ?_
  refine jT_advK 6 (pcN := 38) (LN := [(4, (0, 0)), (3, (4, 16)), (0, (4, 0)), (1, (4, 1)), (2, (0, 57))]) (stN := [(0, 57), (4, 1), (1, 0), (0, 0), (4, 16)]) (hsN := jpA_2985) (c1 := 0) (s1 := 0) (c2 := 0) (s2 := 0) (by decide +kernel) ?_ (by omega) (by omega)
  refine jT_iald (x := 0) (a := 1) (j := 57) (fs := []) (X := jS0) (by rfl) (by rfl) (by rfl) (by rfl) (by decide +kernel) ?_
  refine jT_eq (LN := [(4, (0, 0)), (3, (4, 16)), (0, (4, 0)), (1, (4, 1)), (2, (0, 57))]) (stN := [(0, 0), (1, 0), (0, 0), (4, 16)]) (hsN := jpA_2985) rfl rfl rfl ?_
  refine jT_advK 21 (pcN := 30) (LN := [(4, (0, 1)), (3, (4, 16)), (0, (4, 0)), (1, (4, 1)), (2, (0, 57))]) (stN := [(0, 63), (4, 1), (1, 0), (0, 1), (4, 16)]) (hsN := jpA_2985) (c1 := 0) (s1 := 0) (c2 := 0) (s2 := 0) (by decide +kernel) ?_ (by omega) (by omega)
  refine jT_iald (x := 1) (a := 1) (j := 63) (fs := []) (X := jS0) (by rfl) (by rfl) (by rfl) (by rfl) (by decide +kernel) ?_
  refine jT_eq (LN := [(4, (0, 1)), (3, (4, 16)), (0, (4, 0)), (1, (4, 1)), (2, (0, 57))]) (stN := [(0, 1), (1, 0), (0, 1), (4, 16)]) (hsN := jpA_2985) rfl rfl rfl ?_
  refine jT_advK 6 (pcN := 38) (LN := [(4, (0, 1)), (3, (4, 16)), (0, (4, 0)), (1, (4, 1)), (2, (0, 57))]) (stN := [(0, 58), (4, 1), (1, 0), (0, 1), (4, 16)]) (hsN := jpA_2985) (c1 := 0) (s1 := 0) (c2 := 0) (s2 := 0) (by decide +kernel) ?_ (by omega) (by omega)
  refine jT_iald (x := 0) (a := 1) (j := 58) (fs := []) (X := jS0) (by rfl) (by rfl) (by rfl) (by rfl) (by decide +kernel) ?_
  refine jT_eq (LN := [(4, (0, 1)), (3, (4, 16)), (0, (4, 0)), (1, (4, 1)), (2, (0, 57))]) (stN := [(0, 0), (1, 0), (0, 1), (4, 16)]) (hsN := jpA_2985) rfl rfl rfl ?_
  refine jT_advK 21 (pcN := 30) (LN := [(4, (0, 2)), (3, (4, 16)), (0, (4, 0)), (1, (4, 1)), (2, (0, 57))]) (stN := [(0, 63), (4, 1), (1, 0), (0, 2), (4, 16)]) (hsN := jpA_2985) (c1 := 0) (s1 := 0) (c2 := 0) (s2 := 0) (by decide +kernel) ?_ (by omega) (by omega)
  refine jT_iald (x := 1) (a := 1) (j := 63) (fs := []) (X := jS0) (by rfl) (by rfl) (by rfl) (by rfl) (by decide +kernel) ?_
  refine jT_eq (LN := [(4, (0, 2)), (3, (4, 16)), (0, (4, 0)), (1, (4, 1)), (2, (0, 57))]) (stN := [(0, 1), (1, 0), (0, 2), (4, 16)]) (hsN := jpA_2985) rfl rfl rfl ?_
  refine jT_advK 6 (pcN := 38) (LN := [(4, (0, 2)), (3, (4, 16)), (0, (4, 0)), (1, (4, 1)), (2, (0, 57))]) (stN := [(0, 59), (4, 1), (1, 0), (0, 2), (4, 16)]) (hsN := jpA_2985) (c1 := 0) (s1 := 0) (c2 := 0) (s2 := 0) (by decide +kernel) ?_ (by omega) (by omega)
  refine jT_iald (x := 0) (a := 1) (j := 59) (fs := []) (X := jS0) (by rfl) (by rfl) (by rfl) (by rfl) (by decide +kernel) ?_
  refine jT_eq (LN := [(4, (0, 2)), (3, (4, 16)), (0, (4, 0)), (1, (4, 1)), (2, (0, 57))]) (stN := [(0, 0), (1, 0), (0, 2), (4, 16)]) (hsN := jpA_2985) rfl rfl rfl ?_
  refine jT_advK 21 (pcN := 30) (LN := [(4, (0, 3)), (3, (4, 16)), (0, (4, 0)), (1, (4, 1)), (2, (0, 57))]) (stN := [(0, 63), (4, 1), (1, 0), (0, 3), (4, 16)]) (hsN := jpA_2985) (c1 := 0) (s1 := 0) (c2 := 0) (s2 := 0) (by decide +kernel) ?_ (by omega) (by omega)
  refine jT_iald (x := 1) (a := 1) (j := 63) (fs := []) (X := jS0) (by rfl) (by rfl) (by rfl) (by rfl) (by decide +kernel) ?_
  refine jT_eq (LN := [(4, (0, 3)), (3, (4, 16)), (0, (4, 0)), (1, (4, 1)), (2, (0, 57))]) (stN := [(0, 1), (1, 0), (0, 3), (4, 16)]) (hsN := jpA_2985) rfl rfl rfl ?_
  refine jT_advK 6 (pcN := 38) (LN := [(4, (0, 3)), (3, (4, 16)), (0, (4, 0)), (1, (4, 1)), (2, (0, 57))]) (stN := [(0, 60), (4, 1), (1, 0), (0, 3), (4, 16)]) (hsN := jpA_2985) (c1 := 0) (s1 := 0) (c2 := 0) (s2 := 0) (by decide +kernel) ?_ (by omega) (by omega)
  refine jT_iald (x := 0) (a := 1) (j := 60) (fs := []) (X := jS0) (by rfl) (by rfl) (by rfl) (by rfl) (by decide +kernel) ?_
  refine jT_eq (LN := [(4, (0, 3)), (3, (4, 16)), (0, (4, 0)), (1, (4, 1)), (2, (0, 57))]) (stN := [(0, 0), (1, 0), (0, 3), (4, 16)]) (hsN := jpA_2985) rfl rfl rfl ?_
  refine jT_advK 21 (pcN := 30) (LN := [(4, (0, 4)), (3, (4, 16)), (0, (4, 0)), (1, (4, 1)), (2, (0, 57))]) (stN := [(0, 63), (4, 1), (1, 0), (0, 4), (4, 16)]) (hsN := jpA_2985) (c1 := 0) (s1 := 0) (c2 := 0) (s2 := 0) (by decide +kernel) ?_ (by omega) (by omega)
  refine jT_iald (x := 1) (a := 1) (j := 63) (fs := []) (X := jS0) (by rfl) (by rfl) (by rfl) (by rfl) (by decide +kernel) ?_
  refine jT_eq (LN := [(4, (0, 4)), (3, (4, 16)), (0, (4, 0)), (1, (4, 1)), (2, (0, 57))]) (stN := [(0, 1), (1, 0), (0, 4), (4, 16)]) (hsN := jpA_2985) rfl rfl rfl ?_
  refine jT_advK 6 (pcN := 38) (LN := [(4, (0, 4)), (3, (4, 16)), (0, (4, 0)), (1, (4, 1)), (2, (0, 57))]) (stN := [(0, 61), (4, 1), (1, 0), (0, 4), (4, 16)]) (hsN := jpA_2985) (c1 := 0) (s1 := 0) (c2 := 0) (s2 := 0) (by decide +kernel) ?_ (by omega) (by omega)
  refine jT_iald (x := 0) (a := 1) (j := 61) (fs := []) (X := jS0) (by rfl) (by rfl) (by rfl) (by rfl) (by decide +kernel) ?_
  refine jT_eq (LN := [(4, (0, 4)), (3, (4, 16)), (0, (4, 0)), (1, (4, 1)), (2, (0, 57))]) (stN := [(0, 0), (1, 0), (0, 4), (4, 16)]) (hsN := jpA_2985) rfl rfl rfl ?_
  refine jT_advK 21 (pcN := 30) (LN := [(4, (0, 5)), (3, (4, 16)), (0, (4, 0)), (1, (4, 1)), (2, (0, 57))]) (stN := [(0, 63), (4, 1), (1, 0), (0, 5), (4, 16)]) (hsN := jpA_2985) (c1 := 0) (s1 := 0) (c2 := 0) (s2 := 0) (by decide +kernel) ?_ (by omega) (by omega)
  refine jT_iald (x := 1) (a := 1) (j := 63) (fs := []) (X := jS0) (by rfl) (by rfl) (by rfl) (by rfl) (by decide +kernel) ?_
  refine jT_eq (LN := [(4, (0, 5)), (3, (4, 16)), (0, (4, 0)), (1, (4, 1)), (2, (0, 57))]) (stN := [(0, 1), (1, 0), (0, 5), (4, 16)]) (hsN := jpA_2985) rfl rfl rfl ?_
  refine jT_advK 6 (pcN := 38) (LN := [(4, (0, 5)), (3, (4, 16)), (0, (4, 0)), (1, (4, 1)), (2, (0, 57))]) (stN := [(0, 62), (4, 1), (1, 0), (0, 5), (4, 16)]) (hsN := jpA_2985) (c1 := 0) (s1 := 0) (c2 := 0) (s2 := 0) (by decide +kernel) ?_ (by omega) (by omega)
  refine jT_iald (x := 0) (a := 1) (j := 62) (fs := []) (X := jS0) (by rfl) (by rfl) (by rfl) (by rfl) (by decide +kernel) ?_
  refine jT_eq (LN := [(4, (0, 5)), (3, (4, 16)), (0, (4, 0)), (1, (4, 1)), (2, (0, 57))]) (stN := [(0, 0), (1, 0), (0, 5), (4, 16)]) (hsN := jpA_2985) rfl rfl rfl ?_
  refine jT_advK 13 (pcN := 55) (LN := [(4, (0, 6)), (3, (4, 16)), (0, (4, 0)), (1, (4, 1)), (2, (0, 57))]) (stN := [(4, 16), (4, 0)]) (hsN := jpA_2985) (c1 := 0) (s1 := 0) (c2 := 0) (s2 := 0) (by decide +kernel) ?_ (by omega) (by omega)
  refine jT_fR [0, 16] 17 (y := 213) (pcN := 58) (dC := 1) (bc1 := 0) (bc2 := 0) (c1 := 0) (c2 := 0) (as := [(4, 0), (4, 16)]) (asC := [(4, 0), (4, 1)]) (LN := [(4, (0, 6)), (3, (4, 16)), (0, (4, 0)), (1, (4, 1)), (2, (0, 57))]) (stN := []) (hsC := [jgh, (101, [], [0, 0, 0, 0, 0, 0])]) (v := (0, 0)) (st2 := [(0, 0)]) (jA_213_152 (d := 0)) (by rfl) (by rfl) (by decide +kernel) (by rfl) (by rfl) (by omega) (by omega) (by omega) (by omega) rfl ?_
  exact jT_ret rfl (by decide) (by show 16 ≤ 17; decide) (by omega) (by omega) ⟨rfl, rfl, rfl⟩
theorem jI_278_15 : jmI (jm 278) 15 = (.iconst 1, 1) := by rfl
theorem jI_278_16 : jmI (jm 278) 16 = (.goto 4, 3) := by rfl
theorem jI_278_28 : jmI (jm 278) 28 = (.aload_n 0, 1) := by rfl
theorem jI_278_29 : jmI (jm 278) 29 = (.iload_n 2, 1) := by rfl
theorem jI_278_33 : jmI (jm 278) 33 = (.aload_n 0, 1) := by rfl
theorem jI_278_37 : jmI (jm 278) 37 = (.lstore_n 3, 1) := by rfl
theorem jI_278_38 : jmI (jm 278) 38 = (.iconst 0, 1) := by rfl
theorem jI_278_39 : jmI (jm 278) 39 = (.istore 5, 2) := by rfl
theorem jI_278_41 : jmI (jm 278) 41 = (.iconst 0, 1) := by rfl
theorem jI_278_42 : jmI (jm 278) 42 = (.istore 6, 2) := by rfl
theorem jI_278_44 : jmI (jm 278) 44 = (.iload 6, 2) := by rfl
theorem jI_278_46 : jmI (jm 278) 46 = (.aload_n 0, 1) := by rfl
theorem jI_278_47 : jmI (jm 278) 47 = (.iload_n 1, 1) := by rfl
theorem jI_278_51 : jmI (jm 278) 51 = (.if_icmp .ge 56, 3) := by rfl
theorem jI_278_54 : jmI (jm 278) 54 = (.lload_n 3, 1) := by rfl
theorem jI_278_59 : jmI (jm 278) 59 = (.ifCond .lt 48, 3) := by rfl
theorem jI_278_62 : jmI (jm 278) 62 = (.aload_n 0, 1) := by rfl
theorem jI_278_63 : jmI (jm 278) 63 = (.aload_n 0, 1) := by rfl
theorem jI_278_64 : jmI (jm 278) 64 = (.getfield 9, 3) := by rfl
theorem jI_278_67 : jmI (jm 278) 67 = (.iload_n 1, 1) := by rfl
theorem jI_278_68 : jmI (jm 278) 68 = (.iload 6, 2) := by rfl
def jpA_3519 : List JC := [jzA_21, (100, [], jS0), jgh, jgh, jgh, jgh, (130, [], [16, 17, 18, 19, 20, 21]), (101, [], [0, 0, 0, 0, 0, 0]), jgh, jgh, jgh, jgh, jgh, jgh, jgh, jgh, (100, [], (jenc (jlg 0))), jgh, jgh, jgh, jgh, jgh, (101, [], [0, 0, 0, 0, 0, 0]), (101, [], [(-1), 0, 0, 0, 0, 0]), (100, [], (jenc 0)), (100, [], (jenc (-1))), (100, [], (jenc ((-1) * (jlg 0)))), (101, [], [0, 0, 0, 0, 0, 0])]
theorem jI_278_76 : jmI (jm 278) 76 = (.istore 7, 2) := by rfl
theorem jI_278_78 : jmI (jm 278) 78 = (.iload 7, 2) := by rfl
theorem jI_278_80 : jmI (jm 278) 80 = (.ifCond .ne 6, 3) := by rfl
theorem jI_278_83 : jmI (jm 278) 83 = (.iload 6, 2) := by rfl
def jpA_3524 : List JC := [(101, [], [0, 0, 0, 0, 0, 0]), (101, [], [(-1), 0, 0, 0, 0, 0]), (100, [], (jenc 0)), (100, [], (jenc (-1))), (100, [], (jenc ((-1) * (jlg 0)))), (101, [], [0, 0, 0, 0, 0, 0])]
theorem jA_278_868 {xs : List Int} {d : Nat} {x2 : Int} (h_x2 : 0 ≤ x2 ∧ x2 ≤ 7) : jT xs (d + 7) 278 22 0 [(0, (4, 0)), (1, (0, 0)), (2, (0, x2))] [] jpA_1695 6 186 (fun k v hsN => k = 0 ∧ v = (0, 0) ∧ hsN = jpA_1695 ++ jpA_3524) := by
  refine jT_xaload_n (v := (4, 0)) (pcN := 1) jI_278_0 rfl rfl rfl ?_
  refine jT_xiload_n (v := (0, 0)) (pcN := 2) jI_278_1 rfl rfl rfl ?_
  refine jT_fR [] 22 (y := 238) (pcN := 5) (dC := 1) (bc1 := 0) (bc2 := 0) (c1 := 6) (c2 := 186) (as := [(0, 0)]) (asC := [(0, 0)]) (LN := [(0, (4, 0)), (1, (0, 0)), (2, (0, x2))]) (stN := [(4, 0)]) (hsC := []) (v := (0, 1)) (st2 := [(0, 1), (4, 0)]) (jA_238_338 (d := 0)) (by rfl) (by rfl) (by decide +kernel) (by rfl) (by rfl) (by omega) (by omega) (by omega) (by omega) rfl ?_
  refine jT_xifF (t := 19) (pcN := 8) jI_278_5 rfl (by decide +kernel) rfl rfl ?_
  refine jT_xiload_n (v := (0, x2)) (pcN := 9) jI_278_8 rfl rfl rfl ?_
  refine jT_fR [] 22 (y := 188) (pcN := 12) (dC := 1) (bc1 := 0) (bc2 := 0) (c1 := 6) (c2 := 186) (as := [(0, x2)]) (asC := [(0, x2)]) (LN := [(0, (4, 0)), (1, (0, 0)), (2, (0, x2))]) (stN := [(4, 0)]) (hsC := []) (v := (0, 1)) (st2 := [(0, 1), (4, 0)]) (jA_188_20 (d := 0) (by omega)) (by rfl) (by rfl) (by decide +kernel) (by rfl) (by rfl) (by omega) (by omega) (by omega) (by omega) rfl ?_
  refine jT_xifF (t := 19) (pcN := 15) jI_278_12 rfl (by decide +kernel) rfl rfl ?_
  refine jT_xiconst (k := 1) (pcN := 16) jI_278_15 rfl ?_
  refine jT_xgoto (pcN := 20) jI_278_16 rfl ?_
  refine jT_fR [0, 1, 2, 3, 4, 5, 6, 7, 8, 9, 10, 11, 12, 13, 14, 15] 22 (y := 190) (pcN := 23) (dC := 1) (bc1 := 0) (bc2 := 0) (c1 := 6) (c2 := 186) (as := [(4, 0), (0, 1)]) (asC := [(4, 0), (0, 1)]) (LN := [(0, (4, 0)), (1, (0, 0)), (2, (0, x2))]) (stN := []) (hsC := jpA_22) (v := (0, 0)) (st2 := [(0, 0)]) (jA_190_39 (d := 0)) (by rfl) (by rfl) (by decide +kernel) (by rfl) (by rfl) (by omega) (by omega) (by omega) (by omega) rfl ?_
  refine jT_xifT (pcN := 28) jI_278_23 rfl (by decide +kernel) rfl ?_
  refine jT_xaload_n (v := (4, 0)) (pcN := 29) jI_278_28 rfl rfl rfl ?_
  refine jT_xiload_n (v := (0, x2)) (pcN := 30) jI_278_29 rfl rfl rfl ?_
  refine jT_fR [0, 1, 2, 3, 4, 5, 6, 7, 8, 9, 10, 11, 12, 13, 14, 15] 22 (y := 202) (pcN := 33) (dC := 1) (bc1 := 0) (bc2 := 0) (c1 := 6) (c2 := 186) (as := [(4, 0), (0, x2)]) (asC := [(4, 0), (0, x2)]) (LN := [(0, (4, 0)), (1, (0, 0)), (2, (0, x2))]) (stN := []) (hsC := jpA_130) (v := (9, 0)) (st2 := []) (jA_202_41 (d := 0) (by omega)) (by rfl) (by rfl) (by decide +kernel) (by rfl) (by rfl) (by omega) (by omega) (by omega) (by omega) rfl ?_
  refine jT_xaload_n (v := (4, 0)) (pcN := 34) jI_278_33 rfl rfl rfl ?_
  refine jT_fA [0, 1, 2, 3, 4, 5, 6, 7, 8, 9, 10, 11, 12, 13, 14, 15, 16, 17, 18, 19, 20, 21] 22 (y := 209) (pcN := 37) (dC := 6) (bc1 := 5) (bc2 := 180) (c1 := 1) (c2 := 6) (as := [(4, 0)]) (asC := [(4, 0)]) (LN := [(0, (4, 0)), (1, (0, 0)), (2, (0, x2))]) (stN := []) (hsC := jpA_684) (ex := jpA_683) (v := (1, 0)) (st2 := [(1, 0)]) (hs2 := jpA_1685) (jA_209_159 (d := 0)) (by rfl) (by rfl) (by decide +kernel) (by rfl) (by rfl) (by omega) (by omega) (by omega) (by omega) rfl (by decide +kernel) ?_
  refine jT_xlstore_n (v := (1, 0)) (LN := [(3, (1, 0)), (0, (4, 0)), (1, (0, 0)), (2, (0, x2))]) (pcN := 38) jI_278_37 rfl rfl rfl rfl ?_
  refine jT_xiconst (k := 0) (pcN := 39) jI_278_38 rfl ?_
  refine jT_xistore (v := (0, 0)) (LN := [(5, (0, 0)), (3, (1, 0)), (0, (4, 0)), (1, (0, 0)), (2, (0, x2))]) (pcN := 41) jI_278_39 rfl rfl rfl rfl ?_
  refine jT_xiconst (k := 0) (pcN := 42) jI_278_41 rfl ?_
  refine jT_xistore (v := (0, 0)) (LN := [(6, (0, 0)), (5, (0, 0)), (3, (1, 0)), (0, (4, 0)), (1, (0, 0)), (2, (0, x2))]) (pcN := 44) jI_278_42 rfl rfl rfl rfl ?_
  refine jT_xiload (v := (0, 0)) (pcN := 46) jI_278_44 rfl rfl rfl ?_
  refine jT_xaload_n (v := (4, 0)) (pcN := 47) jI_278_46 rfl rfl rfl ?_
  refine jT_xiload_n (v := (0, 0)) (pcN := 48) jI_278_47 rfl rfl rfl ?_
  refine jT_fR [0, 1, 2, 3, 4, 5, 6, 7, 8, 9, 10, 11, 12, 13, 14, 15] 27 (y := 245) (pcN := 51) (dC := 0) (bc1 := 0) (bc2 := 0) (c1 := 1) (c2 := 6) (as := [(4, 0), (0, 0)]) (asC := [(4, 0), (0, 0)]) (LN := [(6, (0, 0)), (5, (0, 0)), (3, (1, 0)), (0, (4, 0)), (1, (0, 0)), (2, (0, x2))]) (stN := [(0, 0)]) (hsC := jpA_1519) (v := (0, 1)) (st2 := [(0, 1), (0, 0)]) (jA_245_339 (d := 0)) (by rfl) (by rfl) (by decide +kernel) (by rfl) (by rfl) (by omega) (by omega) (by omega) (by omega) rfl ?_
  refine jT_xicF (t := 107) (pcN := 54) jI_278_51 rfl (by decide +kernel) rfl rfl ?_
  refine jT_xlload_n (v := (1, 0)) (pcN := 55) jI_278_54 rfl rfl rfl ?_
  refine jT_adv 1 (pcN := 58) (LN := [(6, (0, 0)), (5, (0, 0)), (3, (1, 0)), (0, (4, 0)), (1, (0, 0)), (2, (0, x2))]) (stN := [(1, (-2147483648)), (1, 0)]) (hsN := jpA_1685) (c1 := 0) (s1 := 0) (c2 := 1) (s2 := 6) (by exact rfl) ?_ (by omega) (by omega)
  refine jT_lcmp (a := 0) (b := (-2147483648)) (z := 1) (by rfl) (by rfl) (by decide +kernel) (by decide +kernel) (by decide) ?_
  refine jT_xifF (t := 107) (pcN := 62) jI_278_59 rfl (by decide +kernel) rfl rfl ?_
  refine jT_xaload_n (v := (4, 0)) (pcN := 63) jI_278_62 rfl rfl rfl ?_
  refine jT_xaload_n (v := (4, 0)) (pcN := 64) jI_278_63 rfl rfl rfl ?_
  refine jT_xgetf (a := 0) (t := 1) (ci := 14) (fi := 1) (c := jzA_21) (v := (4, 1)) (pcN := 67) jI_278_64 rfl rfl rfl rfl rfl rfl rfl ?_
  refine jT_xiload_n (v := (0, 0)) (pcN := 68) jI_278_67 rfl rfl rfl ?_
  refine jT_xiload (v := (0, 0)) (pcN := 70) jI_278_68 rfl rfl rfl ?_
  refine jT_fR [] 27 (y := 242) (pcN := 73) (dC := 0) (bc1 := 0) (bc2 := 0) (c1 := 1) (c2 := 6) (as := [(0, 0), (0, 0)]) (asC := [(0, 0), (0, 0)]) (LN := [(6, (0, 0)), (5, (0, 0)), (3, (1, 0)), (0, (4, 0)), (1, (0, 0)), (2, (0, x2))]) (stN := [(4, 1), (4, 0)]) (hsC := []) (v := (0, 57)) (st2 := [(0, 57), (4, 1), (4, 0)]) (jA_242_340 (d := 0)) (by rfl) (by rfl) (by decide +kernel) (by rfl) (by rfl) (by omega) (by omega) (by omega) (by omega) rfl ?_
  refine jT_fA [0, 1, 2, 3, 4, 5, 6, 7, 8, 9, 10, 11, 12, 13, 14, 15] 27 (y := 240) (pcN := 76) (dC := 2) (bc1 := 1) (bc2 := 6) (c1 := 0) (c2 := 0) (as := [(4, 0), (4, 1), (0, 57)]) (asC := [(4, 0), (4, 1), (0, 57)]) (LN := [(6, (0, 0)), (5, (0, 0)), (3, (1, 0)), (0, (4, 0)), (1, (0, 0)), (2, (0, x2))]) (stN := []) (hsC := jpA_130) (ex := [(101, [], [0, 0, 0, 0, 0, 0])]) (v := (0, 0)) (st2 := [(0, 0)]) (hs2 := jpA_3519) (jA_240_867 (d := 0)) (by rfl) (by rfl) (by decide +kernel) (by rfl) (by rfl) (by omega) (by omega) (by omega) (by omega) rfl (by decide +kernel) ?_
  refine jT_xistore (v := (0, 0)) (LN := [(7, (0, 0)), (6, (0, 0)), (5, (0, 0)), (3, (1, 0)), (0, (4, 0)), (1, (0, 0)), (2, (0, x2))]) (pcN := 78) jI_278_76 rfl rfl rfl rfl ?_
  refine jT_xiload (v := (0, 0)) (pcN := 80) jI_278_78 rfl rfl rfl ?_
  refine jT_xifF (t := 86) (pcN := 83) jI_278_80 rfl (by decide +kernel) rfl rfl ?_
  refine jT_xiload (v := (0, 0)) (pcN := 85) jI_278_83 rfl rfl rfl ?_
  exact jT_ret rfl (by decide) (by show 22 ≤ 28; decide) (by omega) (by omega) ⟨rfl, rfl, rfl⟩
theorem jA_148_869 {xs : List Int} {d : Nat} {x2 : Int} (h_x2 : 0 ≤ x2 ∧ x2 ≤ 7) : jT xs (d + 5) 148 26 0 [(0, (4, 0)), (1, (0, 1)), (2, (0, x2))] [] jpA_1697 2 8 (fun k v hsN => k = 0 ∧ v = (0, 0) ∧ hsN = jpA_1697 ++ [(101, [], [0, 0, 0, 0, 0, 0]), (4, [(4, 26), (1, 1)], [])]) := by
  refine jT_xaload_n (v := (4, 0)) (pcN := 1) jI_148_0 rfl rfl rfl ?_
  refine jT_xiload_n (v := (0, 1)) (pcN := 2) jI_148_1 rfl rfl rfl ?_
  refine jT_xiconst (k := 4) (pcN := 3) jI_148_2 rfl ?_
  refine jT_fR [0] 26 (y := 115) (pcN := 6) (dC := 0) (bc1 := 0) (bc2 := 0) (c1 := 2) (c2 := 8) (as := [(4, 0), (0, 1), (0, 4)]) (asC := [(4, 0), (0, 1), (0, 4)]) (LN := [(0, (4, 0)), (1, (0, 1)), (2, (0, x2))]) (stN := []) (hsC := [jgh]) (v := (9, 0)) (st2 := []) (jA_115_356 (d := 0)) (by rfl) (by rfl) (by decide +kernel) (by rfl) (by rfl) (by omega) (by omega) (by omega) (by omega) rfl ?_
  refine jT_xaload_n (v := (4, 0)) (pcN := 7) jI_148_6 rfl rfl rfl ?_
  refine jT_xiload_n (v := (0, x2)) (pcN := 8) jI_148_7 rfl rfl rfl ?_
  refine jT_xbipush (k := 8) (pcN := 10) jI_148_8 (by decide) rfl ?_
  refine jT_fR [0] 26 (y := 115) (pcN := 13) (dC := 0) (bc1 := 0) (bc2 := 0) (c1 := 2) (c2 := 8) (as := [(4, 0), (0, x2), (0, 8)]) (asC := [(4, 0), (0, x2), (0, 8)]) (LN := [(0, (4, 0)), (1, (0, 1)), (2, (0, x2))]) (stN := []) (hsC := [jgh]) (v := (9, 0)) (st2 := []) (jA_115_16 (d := 0) (by omega)) (by rfl) (by rfl) (by decide +kernel) (by rfl) (by rfl) (by omega) (by omega) (by omega) (by omega) rfl ?_
  refine jT_xaload_n (v := (4, 0)) (pcN := 14) jI_148_13 rfl rfl rfl ?_
  refine jT_xgetf (a := 0) (t := 1) (ci := 13) (fi := 11) (c := jzA_5) (v := (4, 11)) (pcN := 17) jI_148_14 rfl rfl rfl rfl rfl rfl rfl ?_
  refine jT_xiload_n (v := (0, 1)) (pcN := 18) jI_148_17 rfl rfl rfl ?_
  refine jT_fR [11, 14, 15, 16, 17, 18, 20, 21, 22, 23] 26 (y := 56) (pcN := 21) (dC := 0) (bc1 := 0) (bc2 := 0) (c1 := 2) (c2 := 8) (as := [(4, 11), (0, 1)]) (asC := [(4, 0), (0, 1)]) (LN := [(0, (4, 0)), (1, (0, 1)), (2, (0, x2))]) (stN := []) (hsC := jpA_1446) (v := (4, 7)) (st2 := [(4, 21)]) (jA_56_357 (d := 0)) (by rfl) (by rfl) (by decide +kernel) (by rfl) (by rfl) (by omega) (by omega) (by omega) (by omega) rfl ?_
  refine jT_xaload_n (v := (4, 0)) (pcN := 22) jI_148_21 rfl rfl rfl ?_
  refine jT_xaload_n (v := (4, 0)) (pcN := 23) jI_148_22 rfl rfl rfl ?_
  refine jT_xgetf (a := 0) (t := 1) (ci := 13) (fi := 11) (c := jzA_5) (v := (4, 11)) (pcN := 26) jI_148_23 rfl rfl rfl rfl rfl rfl rfl ?_
  refine jT_xiload_n (v := (0, x2)) (pcN := 27) jI_148_26 rfl rfl rfl ?_
  refine jT_fR [11, 14, 15, 16, 17, 18, 19] 26 (y := 57) (pcN := 30) (dC := 0) (bc1 := 0) (bc2 := 0) (c1 := 2) (c2 := 8) (as := [(4, 11), (0, x2)]) (asC := [(4, 0), (0, x2)]) (LN := [(0, (4, 0)), (1, (0, 1)), (2, (0, x2))]) (stN := [(4, 0), (4, 21)]) (hsC := jpA_47) (v := (4, 6)) (st2 := [(4, 19), (4, 0), (4, 21)]) (jA_57_24 (d := 0) (by omega)) (by rfl) (by rfl) (by decide +kernel) (by rfl) (by rfl) (by omega) (by omega) (by omega) (by omega) rfl ?_
  refine jT_xiconst (k := 1) (pcN := 31) jI_148_30 rfl ?_
  refine jT_fA [0, 19, 1, 2, 3, 4, 5, 6, 7, 8, 9, 10, 11, 24, 12, 13] 26 (y := 127) (pcN := 34) (dC := 3) (bc1 := 2) (bc2 := 8) (c1 := 0) (c2 := 0) (as := [(4, 0), (4, 19), (0, 1)]) (asC := [(4, 0), (4, 1), (0, 1)]) (LN := [(0, (4, 0)), (1, (0, 1)), (2, (0, x2))]) (stN := [(4, 21)]) (hsC := jpA_1447) (ex := [(101, [], [0, 0, 0, 0, 0, 0]), (4, [(4, 16), (1, 1)], [])]) (v := (4, 17)) (st2 := [(4, 27), (4, 21)]) (hs2 := jpA_1696) (jA_127_323 (d := 0)) (by rfl) (by rfl) (by decide +kernel) (by rfl) (by rfl) (by omega) (by omega) (by omega) (by omega) rfl (by decide +kernel) ?_
  refine jT_xaload_n (v := (4, 0)) (pcN := 35) jI_148_34 rfl rfl rfl ?_
  refine jT_xgetf (a := 0) (t := 1) (ci := 13) (fi := 0) (c := jzA_5) (v := (4, 1)) (pcN := 38) jI_148_35 rfl rfl rfl rfl rfl rfl rfl ?_
  refine jT_fR [21, 27, 1, 25, 26, 12, 13, 19, 24] 28 (y := 33) (pcN := 41) (dC := 4) (bc1 := 0) (bc2 := 0) (c1 := 0) (c2 := 0) (as := [(4, 21), (4, 27), (4, 1)]) (asC := [(4, 0), (4, 1), (4, 2)]) (LN := [(0, (4, 0)), (1, (0, 1)), (2, (0, x2))]) (stN := []) (hsC := jpA_1451) (v := (0, 0)) (st2 := [(0, 0)]) (jA_33_328 (d := 0)) (by rfl) (by rfl) (by decide +kernel) (by rfl) (by rfl) (by omega) (by omega) (by omega) (by omega) rfl ?_
  exact jT_ret rfl (by decide) (by show 26 ≤ 28; decide) (by omega) (by omega) ⟨rfl, rfl, rfl⟩
def jpA_3525 : List JC := [jzA_14, (101, [], [0]), (8, [(4, 13), (4, 14)], []), jgh, jgh, jgh, jgh, jgh, jgh, (101, [], [0, 0, 0, 0, 0, 0]), jgh, jgh, jzA_659, jgh, (101, [], [0, 0, 0, 0, 0, 0]), jzA_660, (117, [], [21, 22, 23, 24]), jgh, jgh, jgh, (4, [(4, 25), (1, 1)], []), jgh, (7, [(4, 26), (4, (-1)), (4, (-1))], []), jgh, jgh, (101, [], [0, 0, 0, 0, 0, 0]), (114, [], [20]), (101, [], [0, 0, 0, 0, 0, 0]), (4, [(4, 27), (1, 1)], [])]
def jpA_3526 : List JC := [jzA_14, (101, [], [0]), (8, [(4, 13), (4, 14)], []), jgh, jgh, jgh, jgh, jgh, jgh, (101, [], [0, 0, 0, 0, 0, 0]), jgh, jgh, jzA_659, jgh, (101, [], [0, 0, 0, 0, 0, 0]), jzA_660, (117, [], [21, 22, 23, 24]), jgh, jgh, jgh, (4, [(4, 25), (1, 1)], []), jgh, (7, [(4, 26), (4, (-1)), (4, (-1))], []), jgh, jgh, (101, [], [0, 0, 0, 0, 0, 0]), (114, [], [20])]
theorem jA_353_870 {xs : List Int} {d : Nat} {x2 : Int} (h_x2 : 0 ≤ x2 ∧ x2 ≤ 7) : jT xs (d + 6) 353 27 0 [(0, (4, 0)), (1, (0, 1)), (2, (0, x2)), (3, (4, 1))] [] jpA_3526 2 8 (fun k v hsN => k = 0 ∧ v = (0, 0) ∧ hsN = jpA_3526 ++ [(101, [], [0, 0, 0, 0, 0, 0]), (4, [(4, 27), (1, 1)], [])]) := by
  refine jT_xaload_n (v := (4, 1)) (pcN := 1) jI_353_0 rfl rfl rfl ?_
  refine jT_xiconst (k := 0) (pcN := 2) jI_353_1 rfl ?_
  refine jT_xaload_n (v := (4, 0)) (pcN := 3) jI_353_2 rfl rfl rfl ?_
  refine jT_xiload_n (v := (0, 1)) (pcN := 4) jI_353_3 rfl rfl rfl ?_
  refine jT_xiload_n (v := (0, x2)) (pcN := 5) jI_353_4 rfl rfl rfl ?_
  refine jT_fA [0, 2, 3, 4, 5, 6, 7, 8, 9, 10, 11, 12, 13, 14, 15, 16, 17, 18, 19, 20, 21, 22, 23, 24, 25, 26] 27 (y := 148) (pcN := 8) (dC := 5) (bc1 := 2) (bc2 := 8) (c1 := 0) (c2 := 0) (as := [(4, 0), (0, 1), (0, x2)]) (asC := [(4, 0), (0, 1), (0, x2)]) (LN := [(0, (4, 0)), (1, (0, 1)), (2, (0, x2)), (3, (4, 1))]) (stN := [(0, 0), (4, 1)]) (hsC := jpA_1697) (ex := [(101, [], [0, 0, 0, 0, 0, 0]), (4, [(4, 26), (1, 1)], [])]) (v := (0, 0)) (st2 := [(0, 0), (0, 0), (4, 1)]) (hs2 := jpA_3525) (jA_148_869 (d := 0) (by omega)) (by rfl) (by rfl) (by decide +kernel) (by rfl) (by rfl) (by omega) (by omega) (by omega) (by omega) rfl (by decide +kernel) ?_
  refine jT_xi2l (x := 0) (z := 0) (pcN := 9) jI_353_8 rfl (by decide +kernel) rfl ?_
  refine jT_adv 1 (pcN := 10) (LN := [(0, (4, 0)), (1, (0, 1)), (2, (0, x2)), (3, (4, 1))]) (stN := []) (hsN := jpA_3525) (c1 := 0) (s1 := 0) (c2 := 0) (s2 := 0) (by exact rfl) ?_ (by omega) (by omega)
  refine jT_xgoto (pcN := 17) jI_353_10 rfl ?_
  refine jT_xiconst (k := 0) (pcN := 18) jI_353_17 rfl ?_
  exact jT_ret rfl (by decide) (by show 27 ≤ 29; decide) (by omega) (by omega) ⟨rfl, rfl, rfl⟩
theorem jA_240_871 {xs : List Int} {d : Nat} : jT xs (d + 2) 240 16 0 [(0, (4, 0)), (1, (4, 1)), (2, (0, 338))] [] jpA_130 1 6 (fun k v hsN => k = 0 ∧ v = (0, 0) ∧ hsN = jpA_130 ++ [(101, [], [0, 0, 0, 0, 0, 0])]) := by
  refine jT_advK 18 (pcN := 30) (LN := [(4, (0, 0)), (3, (4, 16)), (0, (4, 0)), (1, (4, 1)), (2, (0, 338))]) (stN := [(0, 344), (4, 1), (1, 0), (0, 0), (4, 16)]) (hsN := jpA_2985) (c1 := 1) (s1 := 6) (c2 := 0) (s2 := 0) (by decide +kernel) ?_ (by omega) (by omega)
  refine jT_iald (x := 1) (a := 1) (j := 344) (fs := []) (X := jS0) (by rfl) (by rfl) (by rfl) (by rfl) (by decide +kernel) ?_
  refine jT_eq (LN := [(4, (0, 0)), (3, (4, 16)), (0, (4, 0)), (1, (4, 1)), (2, (0, 338))]) (stN := [(0, 1), (1, 0), (0, 0), (4, 16)]) (hsN := jpA_2985) rfl rfl rfl ?_
  refine jT_advK 6 (pcN := 38) (LN := [(4, (0, 0)), (3, (4, 16)), (0, (4, 0)), (1, (4, 1)), (2, (0, 338))]) (stN := [(0, 338), (4, 1), (1, 0), (0, 0), (4, 16)]) (hsN := jpA_2985) (c1 := 0) (s1 := 0) (c2 := 0) (s2 := 0) (by decide +kernel) ?_ (by omega) (by omega)
  refine jT_iald (x := 0) (a := 1) (j := 338) (fs := []) (X := jS0) (by rfl) (by rfl) (by rfl) (by rfl) (by decide +kernel) ?_
  refine jT_eq (LN := [(4, (0, 0)), (3, (4, 16)), (0, (4, 0)), (1, (4, 1)), (2, (0, 338))]) (stN := [(0, 0), (1, 0), (0, 0), (4, 16)]) (hsN := jpA_2985) rfl rfl rfl ?_
  refine jT_advK 21 (pcN := 30) (LN := [(4, (0, 1)), (3, (4, 16)), (0, (4, 0)), (1, (4, 1)), (2, (0, 338))]) (stN := [(0, 344), (4, 1), (1, 0), (0, 1), (4, 16)]) (hsN := jpA_2985) (c1 := 0) (s1 := 0) (c2 := 0) (s2 := 0) (by decide +kernel) ?_ (by omega) (by omega)
  refine jT_iald (x := 1) (a := 1) (j := 344) (fs := []) (X := jS0) (by rfl) (by rfl) (by rfl) (by rfl) (by decide +kernel) ?_
  refine jT_eq (LN := [(4, (0, 1)), (3, (4, 16)), (0, (4, 0)), (1, (4, 1)), (2, (0, 338))]) (stN := [(0, 1), (1, 0), (0, 1), (4, 16)]) (hsN := jpA_2985) rfl rfl rfl ?_
  refine jT_advK 6 (pcN := 38) (LN := [(4, (0, 1)), (3, (4, 16)), (0, (4, 0)), (1, (4, 1)), (2, (0, 338))]) (stN := [(0, 339), (4, 1), (1, 0), (0, 1), (4, 16)]) (hsN := jpA_2985) (c1 := 0) (s1 := 0) (c2 := 0) (s2 := 0) (by decide +kernel) ?_ (by omega) (by omega)
  refine jT_iald (x := 0) (a := 1) (j := 339) (fs := []) (X := jS0) (by rfl) (by rfl) (by rfl) (by rfl) (by decide +kernel) ?_
  refine jT_eq (LN := [(4, (0, 1)), (3, (4, 16)), (0, (4, 0)), (1, (4, 1)), (2, (0, 338))]) (stN := [(0, 0), (1, 0), (0, 1), (4, 16)]) (hsN := jpA_2985) rfl rfl rfl ?_
  refine jT_advK 21 (pcN := 30) (LN := [(4, (0, 2)), (3, (4, 16)), (0, (4, 0)), (1, (4, 1)), (2, (0, 338))]) (stN := [(0, 344), (4, 1), (1, 0), (0, 2), (4, 16)]) (hsN := jpA_2985) (c1 := 0) (s1 := 0) (c2 := 0) (s2 := 0) (by decide +kernel) ?_ (by omega) (by omega)
  refine jT_iald (x := 1) (a := 1) (j := 344) (fs := []) (X := jS0) (by rfl) (by rfl) (by rfl) (by rfl) (by decide +kernel) ?_
  refine jT_eq (LN := [(4, (0, 2)), (3, (4, 16)), (0, (4, 0)), (1, (4, 1)), (2, (0, 338))]) (stN := [(0, 1), (1, 0), (0, 2), (4, 16)]) (hsN := jpA_2985) rfl rfl rfl ?_
  refine jT_advK 6 (pcN := 38) (LN := [(4, (0, 2)), (3, (4, 16)), (0, (4, 0)), (1, (4, 1)), (2, (0, 338))]) (stN := [(0, 340), (4, 1), (1, 0), (0, 2), (4, 16)]) (hsN := jpA_2985) (c1 := 0) (s1 := 0) (c2 := 0) (s2 := 0) (by decide +kernel) ?_ (by omega) (by omega)
  refine jT_iald (x := 0) (a := 1) (j := 340) (fs := []) (X := jS0) (by rfl) (by rfl) (by rfl) (by rfl) (by decide +kernel) ?_
  refine jT_eq (LN := [(4, (0, 2)), (3, (4, 16)), (0, (4, 0)), (1, (4, 1)), (2, (0, 338))]) (stN := [(0, 0), (1, 0), (0, 2), (4, 16)]) (hsN := jpA_2985) rfl rfl rfl ?_
  refine jT_advK 21 (pcN := 30) (LN := [(4, (0, 3)), (3, (4, 16)), (0, (4, 0)), (1, (4, 1)), (2, (0, 338))]) (stN := [(0, 344), (4, 1), (1, 0), (0, 3), (4, 16)]) (hsN := jpA_2985) (c1 := 0) (s1 := 0) (c2 := 0) (s2 := 0) (by decide +kernel) ?_ (by omega) (by omega)
  refine jT_iald (x := 1) (a := 1) (j := 344) (fs := []) (X := jS0) (by rfl) (by rfl) (by rfl) (by rfl) (by decide +kernel) ?_
  refine jT_eq (LN := [(4, (0, 3)), (3, (4, 16)), (0, (4, 0)), (1, (4, 1)), (2, (0, 338))]) (stN := [(0, 1), (1, 0), (0, 3), (4, 16)]) (hsN := jpA_2985) rfl rfl rfl ?_
  refine jT_advK 6 (pcN := 38) (LN := [(4, (0, 3)), (3, (4, 16)), (0, (4, 0)), (1, (4, 1)), (2, (0, 338))]) (stN := [(0, 341), (4, 1), (1, 0), (0, 3), (4, 16)]) (hsN := jpA_2985) (c1 := 0) (s1 := 0) (c2 := 0) (s2 := 0) (by decide +kernel) ?_ (by omega) (by omega)
  refine jT_iald (x := 0) (a := 1) (j := 341) (fs := []) (X := jS0) (by rfl) (by rfl) (by rfl) (by rfl) (by decide +kernel) ?_
  refine jT_eq (LN := [(4, (0, 3)), (3, (4, 16)), (0, (4, 0)), (1, (4, 1)), (2, (0, 338))]) (stN := [(0, 0), (1, 0), (0, 3), (4, 16)]) (hsN := jpA_2985) rfl rfl rfl ?_
  refine jT_advK 21 (pcN := 30) (LN := [(4, (0, 4)), (3, (4, 16)), (0, (4, 0)), (1, (4, 1)), (2, (0, 338))]) (stN := [(0, 344), (4, 1), (1, 0), (0, 4), (4, 16)]) (hsN := jpA_2985) (c1 := 0) (s1 := 0) (c2 := 0) (s2 := 0) (by decide +kernel) ?_ (by omega) (by omega)
  refine jT_iald (x := 1) (a := 1) (j := 344) (fs := []) (X := jS0) (by rfl) (by rfl) (by rfl) (by rfl) (by decide +kernel) ?_
  refine jT_eq (LN := [(4, (0, 4)), (3, (4, 16)), (0, (4, 0)), (1, (4, 1)), (2, (0, 338))]) (stN := [(0, 1), (1, 0), (0, 4), (4, 16)]) (hsN := jpA_2985) rfl rfl rfl ?_
  refine jT_advK 6 (pcN := 38) (LN := [(4, (0, 4)), (3, (4, 16)), (0, (4, 0)), (1, (4, 1)), (2, (0, 338))]) (stN := [(0, 342), (4, 1), (1, 0), (0, 4), (4, 16)]) (hsN := jpA_2985) (c1 := 0) (s1 := 0) (c2 := 0) (s2 := 0) (by decide +kernel) ?_ (by omega) (by omega)
  refine jT_iald (x := 0) (a := 1) (j := 342) (fs := []) (X := jS0) (by rfl) (by rfl) (by rfl) (by rfl) (by decide +kernel) ?_
  refine jT_eq (LN := [(4, (0, 4)), (3, (4, 16)), (0, (4, 0)), (1, (4, 1)), (2, (0, 338))]) (stN := [(0, 0), (1, 0), (0, 4), (4, 16)]) (hsN := jpA_2985) rfl rfl rfl ?_
  refine jT_advK 21 (pcN := 30) (LN := [(4, (0, 5)), (3, (4, 16)), (0, (4, 0)), (1, (4, 1)), (2, (0, 338))]) (stN := [(0, 344), (4, 1), (1, 0), (0, 5), (4, 16)]) (hsN := jpA_2985) (c1 := 0) (s1 := 0) (c2 := 0) (s2 := 0) (by decide +kernel) ?_ (by omega) (by omega)
  refine jT_iald (x := 1) (a := 1) (j := 344) (fs := []) (X := jS0) (by rfl) (by rfl) (by rfl) (by rfl) (by decide +kernel) ?_
  refine jT_eq (LN := [(4, (0, 5)), (3, (4, 16)), (0, (4, 0)), (1, (4, 1)), (2, (0, 338))]) (stN := [(0, 1), (1, 0), (0, 5), (4, 16)]) (hsN := jpA_2985) rfl rfl rfl ?_
  refine jT_advK 6 (pcN := 38) (LN := [(4, (0, 5)), (3, (4, 16)), (0, (4, 0)), (1, (4, 1)), (2, (0, 338))]) (stN := [(0, 343), (4, 1), (1, 0), (0, 5), (4, 16)]) (hsN := jpA_2985) (c1 := 0) (s1 := 0) (c2 := 0) (s2 := 0) (by decide +kernel) ?_ (by omega) (by omega)
  refine jT_iald (x := 0) (a := 1) (j := 343) (fs := []) (X := jS0) (by rfl) (by rfl) (by rfl) (by rfl) (by decide +kernel) ?_
  refine jT_eq (LN := [(4, (0, 5)), (3, (4, 16)), (0, (4, 0)), (1, (4, 1)), (2, (0, 338))]) (stN := [(0, 0), (1, 0), (0, 5), (4, 16)]) (hsN := jpA_2985) rfl rfl rfl ?_
  refine jT_advK 13 (pcN := 55) (LN := [(4, (0, 6)), (3, (4, 16)), (0, (4, 0)), (1, (4, 1)), (2, (0, 338))]) (stN := [(4, 16), (4, 0)]) (hsN := jpA_2985) (c1 := 0) (s1 := 0) (c2 := 0) (s2 := 0) (by decide +kernel) ?_ (by omega) (by omega)
  refine jT_fR [0, 16] 17 (y := 213) (pcN := 58) (dC := 1) (bc1 := 0) (bc2 := 0) (c1 := 0) (c2 := 0) (as := [(4, 0), (4, 16)]) (asC := [(4, 0), (4, 1)]) (LN := [(4, (0, 6)), (3, (4, 16)), (0, (4, 0)), (1, (4, 1)), (2, (0, 338))]) (stN := []) (hsC := [jgh, (101, [], [0, 0, 0, 0, 0, 0])]) (v := (0, 0)) (st2 := [(0, 0)]) (jA_213_152 (d := 0)) (by rfl) (by rfl) (by decide +kernel) (by rfl) (by rfl) (by omega) (by omega) (by omega) (by omega) rfl ?_
  exact jT_ret rfl (by decide) (by show 16 ≤ 17; decide) (by omega) (by omega) ⟨rfl, rfl, rfl⟩
theorem jA_278_872 {xs : List Int} {d : Nat} {x2 : Int} (h_x2 : 0 ≤ x2 ∧ x2 ≤ 7) : jT xs (d + 7) 278 22 0 [(0, (4, 0)), (1, (0, 1)), (2, (0, x2))] [] jpA_1695 6 186 (fun k v hsN => k = 0 ∧ v = (0, 0) ∧ hsN = jpA_1695 ++ jpA_3524) := by
  refine jT_xaload_n (v := (4, 0)) (pcN := 1) jI_278_0 rfl rfl rfl ?_
  refine jT_xiload_n (v := (0, 1)) (pcN := 2) jI_278_1 rfl rfl rfl ?_
  refine jT_fR [] 22 (y := 238) (pcN := 5) (dC := 1) (bc1 := 0) (bc2 := 0) (c1 := 6) (c2 := 186) (as := [(0, 1)]) (asC := [(0, 1)]) (LN := [(0, (4, 0)), (1, (0, 1)), (2, (0, x2))]) (stN := [(4, 0)]) (hsC := []) (v := (0, 1)) (st2 := [(0, 1), (4, 0)]) (jA_238_362 (d := 0)) (by rfl) (by rfl) (by decide +kernel) (by rfl) (by rfl) (by omega) (by omega) (by omega) (by omega) rfl ?_
  refine jT_xifF (t := 19) (pcN := 8) jI_278_5 rfl (by decide +kernel) rfl rfl ?_
  refine jT_xiload_n (v := (0, x2)) (pcN := 9) jI_278_8 rfl rfl rfl ?_
  refine jT_fR [] 22 (y := 188) (pcN := 12) (dC := 1) (bc1 := 0) (bc2 := 0) (c1 := 6) (c2 := 186) (as := [(0, x2)]) (asC := [(0, x2)]) (LN := [(0, (4, 0)), (1, (0, 1)), (2, (0, x2))]) (stN := [(4, 0)]) (hsC := []) (v := (0, 1)) (st2 := [(0, 1), (4, 0)]) (jA_188_20 (d := 0) (by omega)) (by rfl) (by rfl) (by decide +kernel) (by rfl) (by rfl) (by omega) (by omega) (by omega) (by omega) rfl ?_
  refine jT_xifF (t := 19) (pcN := 15) jI_278_12 rfl (by decide +kernel) rfl rfl ?_
  refine jT_xiconst (k := 1) (pcN := 16) jI_278_15 rfl ?_
  refine jT_xgoto (pcN := 20) jI_278_16 rfl ?_
  refine jT_fR [0, 1, 2, 3, 4, 5, 6, 7, 8, 9, 10, 11, 12, 13, 14, 15] 22 (y := 190) (pcN := 23) (dC := 1) (bc1 := 0) (bc2 := 0) (c1 := 6) (c2 := 186) (as := [(4, 0), (0, 1)]) (asC := [(4, 0), (0, 1)]) (LN := [(0, (4, 0)), (1, (0, 1)), (2, (0, x2))]) (stN := []) (hsC := jpA_22) (v := (0, 0)) (st2 := [(0, 0)]) (jA_190_39 (d := 0)) (by rfl) (by rfl) (by decide +kernel) (by rfl) (by rfl) (by omega) (by omega) (by omega) (by omega) rfl ?_
  refine jT_xifT (pcN := 28) jI_278_23 rfl (by decide +kernel) rfl ?_
  refine jT_xaload_n (v := (4, 0)) (pcN := 29) jI_278_28 rfl rfl rfl ?_
  refine jT_xiload_n (v := (0, x2)) (pcN := 30) jI_278_29 rfl rfl rfl ?_
  refine jT_fR [0, 1, 2, 3, 4, 5, 6, 7, 8, 9, 10, 11, 12, 13, 14, 15] 22 (y := 202) (pcN := 33) (dC := 1) (bc1 := 0) (bc2 := 0) (c1 := 6) (c2 := 186) (as := [(4, 0), (0, x2)]) (asC := [(4, 0), (0, x2)]) (LN := [(0, (4, 0)), (1, (0, 1)), (2, (0, x2))]) (stN := []) (hsC := jpA_130) (v := (9, 0)) (st2 := []) (jA_202_41 (d := 0) (by omega)) (by rfl) (by rfl) (by decide +kernel) (by rfl) (by rfl) (by omega) (by omega) (by omega) (by omega) rfl ?_
  refine jT_xaload_n (v := (4, 0)) (pcN := 34) jI_278_33 rfl rfl rfl ?_
  refine jT_fA [0, 1, 2, 3, 4, 5, 6, 7, 8, 9, 10, 11, 12, 13, 14, 15, 16, 17, 18, 19, 20, 21] 22 (y := 209) (pcN := 37) (dC := 6) (bc1 := 5) (bc2 := 180) (c1 := 1) (c2 := 6) (as := [(4, 0)]) (asC := [(4, 0)]) (LN := [(0, (4, 0)), (1, (0, 1)), (2, (0, x2))]) (stN := []) (hsC := jpA_684) (ex := jpA_683) (v := (1, 0)) (st2 := [(1, 0)]) (hs2 := jpA_1685) (jA_209_159 (d := 0)) (by rfl) (by rfl) (by decide +kernel) (by rfl) (by rfl) (by omega) (by omega) (by omega) (by omega) rfl (by decide +kernel) ?_
  refine jT_xlstore_n (v := (1, 0)) (LN := [(3, (1, 0)), (0, (4, 0)), (1, (0, 1)), (2, (0, x2))]) (pcN := 38) jI_278_37 rfl rfl rfl rfl ?_
  refine jT_xiconst (k := 0) (pcN := 39) jI_278_38 rfl ?_
  refine jT_xistore (v := (0, 0)) (LN := [(5, (0, 0)), (3, (1, 0)), (0, (4, 0)), (1, (0, 1)), (2, (0, x2))]) (pcN := 41) jI_278_39 rfl rfl rfl rfl ?_
  refine jT_xiconst (k := 0) (pcN := 42) jI_278_41 rfl ?_
  refine jT_xistore (v := (0, 0)) (LN := [(6, (0, 0)), (5, (0, 0)), (3, (1, 0)), (0, (4, 0)), (1, (0, 1)), (2, (0, x2))]) (pcN := 44) jI_278_42 rfl rfl rfl rfl ?_
  refine jT_xiload (v := (0, 0)) (pcN := 46) jI_278_44 rfl rfl rfl ?_
  refine jT_xaload_n (v := (4, 0)) (pcN := 47) jI_278_46 rfl rfl rfl ?_
  refine jT_xiload_n (v := (0, 1)) (pcN := 48) jI_278_47 rfl rfl rfl ?_
  refine jT_fR [0, 1, 2, 3, 4, 5, 6, 7, 8, 9, 10, 11, 12, 13, 14, 15] 27 (y := 245) (pcN := 51) (dC := 0) (bc1 := 0) (bc2 := 0) (c1 := 1) (c2 := 6) (as := [(4, 0), (0, 1)]) (asC := [(4, 0), (0, 1)]) (LN := [(6, (0, 0)), (5, (0, 0)), (3, (1, 0)), (0, (4, 0)), (1, (0, 1)), (2, (0, x2))]) (stN := [(0, 0)]) (hsC := jpA_1519) (v := (0, 1)) (st2 := [(0, 1), (0, 0)]) (jA_245_363 (d := 0)) (by rfl) (by rfl) (by decide +kernel) (by rfl) (by rfl) (by omega) (by omega) (by omega) (by omega) rfl ?_
  refine jT_xicF (t := 107) (pcN := 54) jI_278_51 rfl (by decide +kernel) rfl rfl ?_
  refine jT_xlload_n (v := (1, 0)) (pcN := 55) jI_278_54 rfl rfl rfl ?_
  refine jT_adv 1 (pcN := 58) (LN := [(6, (0, 0)), (5, (0, 0)), (3, (1, 0)), (0, (4, 0)), (1, (0, 1)), (2, (0, x2))]) (stN := [(1, (-2147483648)), (1, 0)]) (hsN := jpA_1685) (c1 := 0) (s1 := 0) (c2 := 1) (s2 := 6) (by exact rfl) ?_ (by omega) (by omega)
  refine jT_lcmp (a := 0) (b := (-2147483648)) (z := 1) (by rfl) (by rfl) (by decide +kernel) (by decide +kernel) (by decide) ?_
  refine jT_xifF (t := 107) (pcN := 62) jI_278_59 rfl (by decide +kernel) rfl rfl ?_
  refine jT_xaload_n (v := (4, 0)) (pcN := 63) jI_278_62 rfl rfl rfl ?_
  refine jT_xaload_n (v := (4, 0)) (pcN := 64) jI_278_63 rfl rfl rfl ?_
  refine jT_xgetf (a := 0) (t := 1) (ci := 14) (fi := 1) (c := jzA_21) (v := (4, 1)) (pcN := 67) jI_278_64 rfl rfl rfl rfl rfl rfl rfl ?_
  refine jT_xiload_n (v := (0, 1)) (pcN := 68) jI_278_67 rfl rfl rfl ?_
  refine jT_xiload (v := (0, 0)) (pcN := 70) jI_278_68 rfl rfl rfl ?_
  refine jT_fR [] 27 (y := 242) (pcN := 73) (dC := 0) (bc1 := 0) (bc2 := 0) (c1 := 1) (c2 := 6) (as := [(0, 1), (0, 0)]) (asC := [(0, 1), (0, 0)]) (LN := [(6, (0, 0)), (5, (0, 0)), (3, (1, 0)), (0, (4, 0)), (1, (0, 1)), (2, (0, x2))]) (stN := [(4, 1), (4, 0)]) (hsC := []) (v := (0, 338)) (st2 := [(0, 338), (4, 1), (4, 0)]) (jA_242_364 (d := 0)) (by rfl) (by rfl) (by decide +kernel) (by rfl) (by rfl) (by omega) (by omega) (by omega) (by omega) rfl ?_
  refine jT_fA [0, 1, 2, 3, 4, 5, 6, 7, 8, 9, 10, 11, 12, 13, 14, 15] 27 (y := 240) (pcN := 76) (dC := 2) (bc1 := 1) (bc2 := 6) (c1 := 0) (c2 := 0) (as := [(4, 0), (4, 1), (0, 338)]) (asC := [(4, 0), (4, 1), (0, 338)]) (LN := [(6, (0, 0)), (5, (0, 0)), (3, (1, 0)), (0, (4, 0)), (1, (0, 1)), (2, (0, x2))]) (stN := []) (hsC := jpA_130) (ex := [(101, [], [0, 0, 0, 0, 0, 0])]) (v := (0, 0)) (st2 := [(0, 0)]) (hs2 := jpA_3519) (jA_240_871 (d := 0)) (by rfl) (by rfl) (by decide +kernel) (by rfl) (by rfl) (by omega) (by omega) (by omega) (by omega) rfl (by decide +kernel) ?_
  refine jT_xistore (v := (0, 0)) (LN := [(7, (0, 0)), (6, (0, 0)), (5, (0, 0)), (3, (1, 0)), (0, (4, 0)), (1, (0, 1)), (2, (0, x2))]) (pcN := 78) jI_278_76 rfl rfl rfl rfl ?_
  refine jT_xiload (v := (0, 0)) (pcN := 80) jI_278_78 rfl rfl rfl ?_
  refine jT_xifF (t := 86) (pcN := 83) jI_278_80 rfl (by decide +kernel) rfl rfl ?_
  refine jT_xiload (v := (0, 0)) (pcN := 85) jI_278_83 rfl rfl rfl ?_
  exact jT_ret rfl (by decide) (by show 22 ≤ 28; decide) (by omega) (by omega) ⟨rfl, rfl, rfl⟩
theorem jA_148_873 {xs : List Int} {d : Nat} {x2 : Int} (h_x2 : 0 ≤ x2 ∧ x2 ≤ 7) : jT xs (d + 5) 148 26 0 [(0, (4, 0)), (1, (0, 2)), (2, (0, x2))] [] jpA_1701 2 8 (fun k v hsN => k = 0 ∧ v = (0, 0) ∧ hsN = jpA_1701 ++ [(101, [], [0, 0, 0, 0, 0, 0]), (4, [(4, 26), (1, 1)], [])]) := by
  refine jT_xaload_n (v := (4, 0)) (pcN := 1) jI_148_0 rfl rfl rfl ?_
  refine jT_xiload_n (v := (0, 2)) (pcN := 2) jI_148_1 rfl rfl rfl ?_
  refine jT_xiconst (k := 4) (pcN := 3) jI_148_2 rfl ?_
  refine jT_fR [0] 26 (y := 115) (pcN := 6) (dC := 0) (bc1 := 0) (bc2 := 0) (c1 := 2) (c2 := 8) (as := [(4, 0), (0, 2), (0, 4)]) (asC := [(4, 0), (0, 2), (0, 4)]) (LN := [(0, (4, 0)), (1, (0, 2)), (2, (0, x2))]) (stN := []) (hsC := [jgh]) (v := (9, 0)) (st2 := []) (jA_115_372 (d := 0)) (by rfl) (by rfl) (by decide +kernel) (by rfl) (by rfl) (by omega) (by omega) (by omega) (by omega) rfl ?_
  refine jT_xaload_n (v := (4, 0)) (pcN := 7) jI_148_6 rfl rfl rfl ?_
  refine jT_xiload_n (v := (0, x2)) (pcN := 8) jI_148_7 rfl rfl rfl ?_
  refine jT_xbipush (k := 8) (pcN := 10) jI_148_8 (by decide) rfl ?_
  refine jT_fR [0] 26 (y := 115) (pcN := 13) (dC := 0) (bc1 := 0) (bc2 := 0) (c1 := 2) (c2 := 8) (as := [(4, 0), (0, x2), (0, 8)]) (asC := [(4, 0), (0, x2), (0, 8)]) (LN := [(0, (4, 0)), (1, (0, 2)), (2, (0, x2))]) (stN := []) (hsC := [jgh]) (v := (9, 0)) (st2 := []) (jA_115_16 (d := 0) (by omega)) (by rfl) (by rfl) (by decide +kernel) (by rfl) (by rfl) (by omega) (by omega) (by omega) (by omega) rfl ?_
  refine jT_xaload_n (v := (4, 0)) (pcN := 14) jI_148_13 rfl rfl rfl ?_
  refine jT_xgetf (a := 0) (t := 1) (ci := 13) (fi := 11) (c := jzA_5) (v := (4, 11)) (pcN := 17) jI_148_14 rfl rfl rfl rfl rfl rfl rfl ?_
  refine jT_xiload_n (v := (0, 2)) (pcN := 18) jI_148_17 rfl rfl rfl ?_
  refine jT_fR [11, 14, 15, 16, 17, 18, 20, 21, 22, 23] 26 (y := 56) (pcN := 21) (dC := 0) (bc1 := 0) (bc2 := 0) (c1 := 2) (c2 := 8) (as := [(4, 11), (0, 2)]) (asC := [(4, 0), (0, 2)]) (LN := [(0, (4, 0)), (1, (0, 2)), (2, (0, x2))]) (stN := []) (hsC := jpA_1446) (v := (4, 8)) (st2 := [(4, 22)]) (jA_56_373 (d := 0)) (by rfl) (by rfl) (by decide +kernel) (by rfl) (by rfl) (by omega) (by omega) (by omega) (by omega) rfl ?_
  refine jT_xaload_n (v := (4, 0)) (pcN := 22) jI_148_21 rfl rfl rfl ?_
  refine jT_xaload_n (v := (4, 0)) (pcN := 23) jI_148_22 rfl rfl rfl ?_
  refine jT_xgetf (a := 0) (t := 1) (ci := 13) (fi := 11) (c := jzA_5) (v := (4, 11)) (pcN := 26) jI_148_23 rfl rfl rfl rfl rfl rfl rfl ?_
  refine jT_xiload_n (v := (0, x2)) (pcN := 27) jI_148_26 rfl rfl rfl ?_
  refine jT_fR [11, 14, 15, 16, 17, 18, 19] 26 (y := 57) (pcN := 30) (dC := 0) (bc1 := 0) (bc2 := 0) (c1 := 2) (c2 := 8) (as := [(4, 11), (0, x2)]) (asC := [(4, 0), (0, x2)]) (LN := [(0, (4, 0)), (1, (0, 2)), (2, (0, x2))]) (stN := [(4, 0), (4, 22)]) (hsC := jpA_47) (v := (4, 6)) (st2 := [(4, 19), (4, 0), (4, 22)]) (jA_57_24 (d := 0) (by omega)) (by rfl) (by rfl) (by decide +kernel) (by rfl) (by rfl) (by omega) (by omega) (by omega) (by omega) rfl ?_
  refine jT_xiconst (k := 1) (pcN := 31) jI_148_30 rfl ?_
  refine jT_fA [0, 19, 1, 2, 3, 4, 5, 6, 7, 8, 9, 10, 11, 24, 12, 13] 26 (y := 127) (pcN := 34) (dC := 3) (bc1 := 2) (bc2 := 8) (c1 := 0) (c2 := 0) (as := [(4, 0), (4, 19), (0, 1)]) (asC := [(4, 0), (4, 1), (0, 1)]) (LN := [(0, (4, 0)), (1, (0, 2)), (2, (0, x2))]) (stN := [(4, 22)]) (hsC := jpA_1447) (ex := [(101, [], [0, 0, 0, 0, 0, 0]), (4, [(4, 16), (1, 1)], [])]) (v := (4, 17)) (st2 := [(4, 27), (4, 22)]) (hs2 := jpA_1700) (jA_127_323 (d := 0)) (by rfl) (by rfl) (by decide +kernel) (by rfl) (by rfl) (by omega) (by omega) (by omega) (by omega) rfl (by decide +kernel) ?_
  refine jT_xaload_n (v := (4, 0)) (pcN := 35) jI_148_34 rfl rfl rfl ?_
  refine jT_xgetf (a := 0) (t := 1) (ci := 13) (fi := 0) (c := jzA_5) (v := (4, 1)) (pcN := 38) jI_148_35 rfl rfl rfl rfl rfl rfl rfl ?_
  refine jT_fR [22, 27, 1, 25, 26, 12, 13, 19, 24] 28 (y := 33) (pcN := 41) (dC := 4) (bc1 := 0) (bc2 := 0) (c1 := 0) (c2 := 0) (as := [(4, 22), (4, 27), (4, 1)]) (asC := [(4, 0), (4, 1), (4, 2)]) (LN := [(0, (4, 0)), (1, (0, 2)), (2, (0, x2))]) (stN := []) (hsC := jpA_1451) (v := (0, 0)) (st2 := [(0, 0)]) (jA_33_328 (d := 0)) (by rfl) (by rfl) (by decide +kernel) (by rfl) (by rfl) (by omega) (by omega) (by omega) (by omega) rfl ?_
  exact jT_ret rfl (by decide) (by show 26 ≤ 28; decide) (by omega) (by omega) ⟨rfl, rfl, rfl⟩
def jpA_3527 : List JC := [jzA_14, (101, [], [0]), (8, [(4, 13), (4, 14)], []), jgh, jgh, jgh, jgh, jgh, jgh, (101, [], [0, 0, 0, 0, 0, 0]), jgh, jgh, jzA_659, jgh, (101, [], [0, 0, 0, 0, 0, 0]), jzA_660, (117, [], [21, 22, 23, 24]), jgh, jgh, jgh, (4, [(4, 25), (1, 1)], []), jgh, jgh, (7, [(4, 26), (4, (-1)), (4, (-1))], []), jgh, (101, [], [0, 0, 0, 0, 0, 0]), (114, [], [20]), (101, [], [0, 0, 0, 0, 0, 0]), (4, [(4, 27), (1, 1)], [])]
def jpA_3528 : List JC := [jzA_14, (101, [], [0]), (8, [(4, 13), (4, 14)], []), jgh, jgh, jgh, jgh, jgh, jgh, (101, [], [0, 0, 0, 0, 0, 0]), jgh, jgh, jzA_659, jgh, (101, [], [0, 0, 0, 0, 0, 0]), jzA_660, (117, [], [21, 22, 23, 24]), jgh, jgh, jgh, (4, [(4, 25), (1, 1)], []), jgh, jgh, (7, [(4, 26), (4, (-1)), (4, (-1))], []), jgh, (101, [], [0, 0, 0, 0, 0, 0]), (114, [], [20])]
theorem jA_353_874 {xs : List Int} {d : Nat} {x2 : Int} (h_x2 : 0 ≤ x2 ∧ x2 ≤ 7) : jT xs (d + 6) 353 27 0 [(0, (4, 0)), (1, (0, 2)), (2, (0, x2)), (3, (4, 1))] [] jpA_3528 2 8 (fun k v hsN => k = 0 ∧ v = (0, 0) ∧ hsN = jpA_3528 ++ [(101, [], [0, 0, 0, 0, 0, 0]), (4, [(4, 27), (1, 1)], [])]) := by
  refine jT_xaload_n (v := (4, 1)) (pcN := 1) jI_353_0 rfl rfl rfl ?_
  refine jT_xiconst (k := 0) (pcN := 2) jI_353_1 rfl ?_
  refine jT_xaload_n (v := (4, 0)) (pcN := 3) jI_353_2 rfl rfl rfl ?_
  refine jT_xiload_n (v := (0, 2)) (pcN := 4) jI_353_3 rfl rfl rfl ?_
  refine jT_xiload_n (v := (0, x2)) (pcN := 5) jI_353_4 rfl rfl rfl ?_
  refine jT_fA [0, 2, 3, 4, 5, 6, 7, 8, 9, 10, 11, 12, 13, 14, 15, 16, 17, 18, 19, 20, 21, 22, 23, 24, 25, 26] 27 (y := 148) (pcN := 8) (dC := 5) (bc1 := 2) (bc2 := 8) (c1 := 0) (c2 := 0) (as := [(4, 0), (0, 2), (0, x2)]) (asC := [(4, 0), (0, 2), (0, x2)]) (LN := [(0, (4, 0)), (1, (0, 2)), (2, (0, x2)), (3, (4, 1))]) (stN := [(0, 0), (4, 1)]) (hsC := jpA_1701) (ex := [(101, [], [0, 0, 0, 0, 0, 0]), (4, [(4, 26), (1, 1)], [])]) (v := (0, 0)) (st2 := [(0, 0), (0, 0), (4, 1)]) (hs2 := jpA_3527) (jA_148_873 (d := 0) (by omega)) (by rfl) (by rfl) (by decide +kernel) (by rfl) (by rfl) (by omega) (by omega) (by omega) (by omega) rfl (by decide +kernel) ?_
  refine jT_xi2l (x := 0) (z := 0) (pcN := 9) jI_353_8 rfl (by decide +kernel) rfl ?_
  refine jT_adv 1 (pcN := 10) (LN := [(0, (4, 0)), (1, (0, 2)), (2, (0, x2)), (3, (4, 1))]) (stN := []) (hsN := jpA_3527) (c1 := 0) (s1 := 0) (c2 := 0) (s2 := 0) (by exact rfl) ?_ (by omega) (by omega)
  refine jT_xgoto (pcN := 17) jI_353_10 rfl ?_
  refine jT_xiconst (k := 0) (pcN := 18) jI_353_17 rfl ?_
  exact jT_ret rfl (by decide) (by show 27 ≤ 29; decide) (by omega) (by omega) ⟨rfl, rfl, rfl⟩
theorem jA_240_875 {xs : List Int} {d : Nat} : jT xs (d + 2) 240 16 0 [(0, (4, 0)), (1, (4, 1)), (2, (0, 619))] [] jpA_130 1 6 (fun k v hsN => k = 0 ∧ v = (0, 0) ∧ hsN = jpA_130 ++ [(101, [], [0, 0, 0, 0, 0, 0])]) := by
  refine jT_advK 18 (pcN := 30) (LN := [(4, (0, 0)), (3, (4, 16)), (0, (4, 0)), (1, (4, 1)), (2, (0, 619))]) (stN := [(0, 625), (4, 1), (1, 0), (0, 0), (4, 16)]) (hsN := jpA_2985) (c1 := 1) (s1 := 6) (c2 := 0) (s2 := 0) (by decide +kernel) ?_ (by omega) (by omega)
  refine jT_iald (x := 1) (a := 1) (j := 625) (fs := []) (X := jS0) (by rfl) (by rfl) (by rfl) (by rfl) (by decide +kernel) ?_
  refine jT_eq (LN := [(4, (0, 0)), (3, (4, 16)), (0, (4, 0)), (1, (4, 1)), (2, (0, 619))]) (stN := [(0, 1), (1, 0), (0, 0), (4, 16)]) (hsN := jpA_2985) rfl rfl rfl ?_
  refine jT_advK 6 (pcN := 38) (LN := [(4, (0, 0)), (3, (4, 16)), (0, (4, 0)), (1, (4, 1)), (2, (0, 619))]) (stN := [(0, 619), (4, 1), (1, 0), (0, 0), (4, 16)]) (hsN := jpA_2985) (c1 := 0) (s1 := 0) (c2 := 0) (s2 := 0) (by decide +kernel) ?_ (by omega) (by omega)
  refine jT_iald (x := 0) (a := 1) (j := 619) (fs := []) (X := jS0) (by rfl) (by rfl) (by rfl) (by rfl) (by decide +kernel) ?_
  refine jT_eq (LN := [(4, (0, 0)), (3, (4, 16)), (0, (4, 0)), (1, (4, 1)), (2, (0, 619))]) (stN := [(0, 0), (1, 0), (0, 0), (4, 16)]) (hsN := jpA_2985) rfl rfl rfl ?_
  refine jT_advK 21 (pcN := 30) (LN := [(4, (0, 1)), (3, (4, 16)), (0, (4, 0)), (1, (4, 1)), (2, (0, 619))]) (stN := [(0, 625), (4, 1), (1, 0), (0, 1), (4, 16)]) (hsN := jpA_2985) (c1 := 0) (s1 := 0) (c2 := 0) (s2 := 0) (by decide +kernel) ?_ (by omega) (by omega)
  refine jT_iald (x := 1) (a := 1) (j := 625) (fs := []) (X := jS0) (by rfl) (by rfl) (by rfl) (by rfl) (by decide +kernel) ?_
  refine jT_eq (LN := [(4, (0, 1)), (3, (4, 16)), (0, (4, 0)), (1, (4, 1)), (2, (0, 619))]) (stN := [(0, 1), (1, 0), (0, 1), (4, 16)]) (hsN := jpA_2985) rfl rfl rfl ?_
  refine jT_advK 6 (pcN := 38) (LN := [(4, (0, 1)), (3, (4, 16)), (0, (4, 0)), (1, (4, 1)), (2, (0, 619))]) (stN := [(0, 620), (4, 1), (1, 0), (0, 1), (4, 16)]) (hsN := jpA_2985) (c1 := 0) (s1 := 0) (c2 := 0) (s2 := 0) (by decide +kernel) ?_ (by omega) (by omega)
  refine jT_iald (x := 0) (a := 1) (j := 620) (fs := []) (X := jS0) (by rfl) (by rfl) (by rfl) (by rfl) (by decide +kernel) ?_
  refine jT_eq (LN := [(4, (0, 1)), (3, (4, 16)), (0, (4, 0)), (1, (4, 1)), (2, (0, 619))]) (stN := [(0, 0), (1, 0), (0, 1), (4, 16)]) (hsN := jpA_2985) rfl rfl rfl ?_
  refine jT_advK 21 (pcN := 30) (LN := [(4, (0, 2)), (3, (4, 16)), (0, (4, 0)), (1, (4, 1)), (2, (0, 619))]) (stN := [(0, 625), (4, 1), (1, 0), (0, 2), (4, 16)]) (hsN := jpA_2985) (c1 := 0) (s1 := 0) (c2 := 0) (s2 := 0) (by decide +kernel) ?_ (by omega) (by omega)
  refine jT_iald (x := 1) (a := 1) (j := 625) (fs := []) (X := jS0) (by rfl) (by rfl) (by rfl) (by rfl) (by decide +kernel) ?_
  refine jT_eq (LN := [(4, (0, 2)), (3, (4, 16)), (0, (4, 0)), (1, (4, 1)), (2, (0, 619))]) (stN := [(0, 1), (1, 0), (0, 2), (4, 16)]) (hsN := jpA_2985) rfl rfl rfl ?_
  refine jT_advK 6 (pcN := 38) (LN := [(4, (0, 2)), (3, (4, 16)), (0, (4, 0)), (1, (4, 1)), (2, (0, 619))]) (stN := [(0, 621), (4, 1), (1, 0), (0, 2), (4, 16)]) (hsN := jpA_2985) (c1 := 0) (s1 := 0) (c2 := 0) (s2 := 0) (by decide +kernel) ?_ (by omega) (by omega)
  refine jT_iald (x := 0) (a := 1) (j := 621) (fs := []) (X := jS0) (by rfl) (by rfl) (by rfl) (by rfl) (by decide +kernel) ?_
  refine jT_eq (LN := [(4, (0, 2)), (3, (4, 16)), (0, (4, 0)), (1, (4, 1)), (2, (0, 619))]) (stN := [(0, 0), (1, 0), (0, 2), (4, 16)]) (hsN := jpA_2985) rfl rfl rfl ?_
  refine jT_advK 21 (pcN := 30) (LN := [(4, (0, 3)), (3, (4, 16)), (0, (4, 0)), (1, (4, 1)), (2, (0, 619))]) (stN := [(0, 625), (4, 1), (1, 0), (0, 3), (4, 16)]) (hsN := jpA_2985) (c1 := 0) (s1 := 0) (c2 := 0) (s2 := 0) (by decide +kernel) ?_ (by omega) (by omega)
  refine jT_iald (x := 1) (a := 1) (j := 625) (fs := []) (X := jS0) (by rfl) (by rfl) (by rfl) (by rfl) (by decide +kernel) ?_
  refine jT_eq (LN := [(4, (0, 3)), (3, (4, 16)), (0, (4, 0)), (1, (4, 1)), (2, (0, 619))]) (stN := [(0, 1), (1, 0), (0, 3), (4, 16)]) (hsN := jpA_2985) rfl rfl rfl ?_
  refine jT_advK 6 (pcN := 38) (LN := [(4, (0, 3)), (3, (4, 16)), (0, (4, 0)), (1, (4, 1)), (2, (0, 619))]) (stN := [(0, 622), (4, 1), (1, 0), (0, 3), (4, 16)]) (hsN := jpA_2985) (c1 := 0) (s1 := 0) (c2 := 0) (s2 := 0) (by decide +kernel) ?_ (by omega) (by omega)
  refine jT_iald (x := 0) (a := 1) (j := 622) (fs := []) (X := jS0) (by rfl) (by rfl) (by rfl) (by rfl) (by decide +kernel) ?_
  refine jT_eq (LN := [(4, (0, 3)), (3, (4, 16)), (0, (4, 0)), (1, (4, 1)), (2, (0, 619))]) (stN := [(0, 0), (1, 0), (0, 3), (4, 16)]) (hsN := jpA_2985) rfl rfl rfl ?_
  refine jT_advK 21 (pcN := 30) (LN := [(4, (0, 4)), (3, (4, 16)), (0, (4, 0)), (1, (4, 1)), (2, (0, 619))]) (stN := [(0, 625), (4, 1), (1, 0), (0, 4), (4, 16)]) (hsN := jpA_2985) (c1 := 0) (s1 := 0) (c2 := 0) (s2 := 0) (by decide +kernel) ?_ (by omega) (by omega)
  refine jT_iald (x := 1) (a := 1) (j := 625) (fs := []) (X := jS0) (by rfl) (by rfl) (by rfl) (by rfl) (by decide +kernel) ?_
  refine jT_eq (LN := [(4, (0, 4)), (3, (4, 16)), (0, (4, 0)), (1, (4, 1)), (2, (0, 619))]) (stN := [(0, 1), (1, 0), (0, 4), (4, 16)]) (hsN := jpA_2985) rfl rfl rfl ?_
  refine jT_advK 6 (pcN := 38) (LN := [(4, (0, 4)), (3, (4, 16)), (0, (4, 0)), (1, (4, 1)), (2, (0, 619))]) (stN := [(0, 623), (4, 1), (1, 0), (0, 4), (4, 16)]) (hsN := jpA_2985) (c1 := 0) (s1 := 0) (c2 := 0) (s2 := 0) (by decide +kernel) ?_ (by omega) (by omega)
  refine jT_iald (x := 0) (a := 1) (j := 623) (fs := []) (X := jS0) (by rfl) (by rfl) (by rfl) (by rfl) (by decide +kernel) ?_
  refine jT_eq (LN := [(4, (0, 4)), (3, (4, 16)), (0, (4, 0)), (1, (4, 1)), (2, (0, 619))]) (stN := [(0, 0), (1, 0), (0, 4), (4, 16)]) (hsN := jpA_2985) rfl rfl rfl ?_
  refine jT_advK 21 (pcN := 30) (LN := [(4, (0, 5)), (3, (4, 16)), (0, (4, 0)), (1, (4, 1)), (2, (0, 619))]) (stN := [(0, 625), (4, 1), (1, 0), (0, 5), (4, 16)]) (hsN := jpA_2985) (c1 := 0) (s1 := 0) (c2 := 0) (s2 := 0) (by decide +kernel) ?_ (by omega) (by omega)
  refine jT_iald (x := 1) (a := 1) (j := 625) (fs := []) (X := jS0) (by rfl) (by rfl) (by rfl) (by rfl) (by decide +kernel) ?_
  refine jT_eq (LN := [(4, (0, 5)), (3, (4, 16)), (0, (4, 0)), (1, (4, 1)), (2, (0, 619))]) (stN := [(0, 1), (1, 0), (0, 5), (4, 16)]) (hsN := jpA_2985) rfl rfl rfl ?_
  refine jT_advK 6 (pcN := 38) (LN := [(4, (0, 5)), (3, (4, 16)), (0, (4, 0)), (1, (4, 1)), (2, (0, 619))]) (stN := [(0, 624), (4, 1), (1, 0), (0, 5), (4, 16)]) (hsN := jpA_2985) (c1 := 0) (s1 := 0) (c2 := 0) (s2 := 0) (by decide +kernel) ?_ (by omega) (by omega)
  refine jT_iald (x := 0) (a := 1) (j := 624) (fs := []) (X := jS0) (by rfl) (by rfl) (by rfl) (by rfl) (by decide +kernel) ?_
  refine jT_eq (LN := [(4, (0, 5)), (3, (4, 16)), (0, (4, 0)), (1, (4, 1)), (2, (0, 619))]) (stN := [(0, 0), (1, 0), (0, 5), (4, 16)]) (hsN := jpA_2985) rfl rfl rfl ?_
  refine jT_advK 13 (pcN := 55) (LN := [(4, (0, 6)), (3, (4, 16)), (0, (4, 0)), (1, (4, 1)), (2, (0, 619))]) (stN := [(4, 16), (4, 0)]) (hsN := jpA_2985) (c1 := 0) (s1 := 0) (c2 := 0) (s2 := 0) (by decide +kernel) ?_ (by omega) (by omega)
  refine jT_fR [0, 16] 17 (y := 213) (pcN := 58) (dC := 1) (bc1 := 0) (bc2 := 0) (c1 := 0) (c2 := 0) (as := [(4, 0), (4, 16)]) (asC := [(4, 0), (4, 1)]) (LN := [(4, (0, 6)), (3, (4, 16)), (0, (4, 0)), (1, (4, 1)), (2, (0, 619))]) (stN := []) (hsC := [jgh, (101, [], [0, 0, 0, 0, 0, 0])]) (v := (0, 0)) (st2 := [(0, 0)]) (jA_213_152 (d := 0)) (by rfl) (by rfl) (by decide +kernel) (by rfl) (by rfl) (by omega) (by omega) (by omega) (by omega) rfl ?_
  exact jT_ret rfl (by decide) (by show 16 ≤ 17; decide) (by omega) (by omega) ⟨rfl, rfl, rfl⟩
theorem jA_278_876 {xs : List Int} {d : Nat} {x2 : Int} (h_x2 : 0 ≤ x2 ∧ x2 ≤ 7) : jT xs (d + 7) 278 22 0 [(0, (4, 0)), (1, (0, 2)), (2, (0, x2))] [] jpA_1695 6 186 (fun k v hsN => k = 0 ∧ v = (0, 0) ∧ hsN = jpA_1695 ++ jpA_3524) := by
  refine jT_xaload_n (v := (4, 0)) (pcN := 1) jI_278_0 rfl rfl rfl ?_
  refine jT_xiload_n (v := (0, 2)) (pcN := 2) jI_278_1 rfl rfl rfl ?_
  refine jT_fR [] 22 (y := 238) (pcN := 5) (dC := 1) (bc1 := 0) (bc2 := 0) (c1 := 6) (c2 := 186) (as := [(0, 2)]) (asC := [(0, 2)]) (LN := [(0, (4, 0)), (1, (0, 2)), (2, (0, x2))]) (stN := [(4, 0)]) (hsC := []) (v := (0, 1)) (st2 := [(0, 1), (4, 0)]) (jA_238_378 (d := 0)) (by rfl) (by rfl) (by decide +kernel) (by rfl) (by rfl) (by omega) (by omega) (by omega) (by omega) rfl ?_
  refine jT_xifF (t := 19) (pcN := 8) jI_278_5 rfl (by decide +kernel) rfl rfl ?_
  refine jT_xiload_n (v := (0, x2)) (pcN := 9) jI_278_8 rfl rfl rfl ?_
  refine jT_fR [] 22 (y := 188) (pcN := 12) (dC := 1) (bc1 := 0) (bc2 := 0) (c1 := 6) (c2 := 186) (as := [(0, x2)]) (asC := [(0, x2)]) (LN := [(0, (4, 0)), (1, (0, 2)), (2, (0, x2))]) (stN := [(4, 0)]) (hsC := []) (v := (0, 1)) (st2 := [(0, 1), (4, 0)]) (jA_188_20 (d := 0) (by omega)) (by rfl) (by rfl) (by decide +kernel) (by rfl) (by rfl) (by omega) (by omega) (by omega) (by omega) rfl ?_
  refine jT_xifF (t := 19) (pcN := 15) jI_278_12 rfl (by decide +kernel) rfl rfl ?_
  refine jT_xiconst (k := 1) (pcN := 16) jI_278_15 rfl ?_
  refine jT_xgoto (pcN := 20) jI_278_16 rfl ?_
  refine jT_fR [0, 1, 2, 3, 4, 5, 6, 7, 8, 9, 10, 11, 12, 13, 14, 15] 22 (y := 190) (pcN := 23) (dC := 1) (bc1 := 0) (bc2 := 0) (c1 := 6) (c2 := 186) (as := [(4, 0), (0, 1)]) (asC := [(4, 0), (0, 1)]) (LN := [(0, (4, 0)), (1, (0, 2)), (2, (0, x2))]) (stN := []) (hsC := jpA_22) (v := (0, 0)) (st2 := [(0, 0)]) (jA_190_39 (d := 0)) (by rfl) (by rfl) (by decide +kernel) (by rfl) (by rfl) (by omega) (by omega) (by omega) (by omega) rfl ?_
  refine jT_xifT (pcN := 28) jI_278_23 rfl (by decide +kernel) rfl ?_
  refine jT_xaload_n (v := (4, 0)) (pcN := 29) jI_278_28 rfl rfl rfl ?_
  refine jT_xiload_n (v := (0, x2)) (pcN := 30) jI_278_29 rfl rfl rfl ?_
  refine jT_fR [0, 1, 2, 3, 4, 5, 6, 7, 8, 9, 10, 11, 12, 13, 14, 15] 22 (y := 202) (pcN := 33) (dC := 1) (bc1 := 0) (bc2 := 0) (c1 := 6) (c2 := 186) (as := [(4, 0), (0, x2)]) (asC := [(4, 0), (0, x2)]) (LN := [(0, (4, 0)), (1, (0, 2)), (2, (0, x2))]) (stN := []) (hsC := jpA_130) (v := (9, 0)) (st2 := []) (jA_202_41 (d := 0) (by omega)) (by rfl) (by rfl) (by decide +kernel) (by rfl) (by rfl) (by omega) (by omega) (by omega) (by omega) rfl ?_
  refine jT_xaload_n (v := (4, 0)) (pcN := 34) jI_278_33 rfl rfl rfl ?_
  refine jT_fA [0, 1, 2, 3, 4, 5, 6, 7, 8, 9, 10, 11, 12, 13, 14, 15, 16, 17, 18, 19, 20, 21] 22 (y := 209) (pcN := 37) (dC := 6) (bc1 := 5) (bc2 := 180) (c1 := 1) (c2 := 6) (as := [(4, 0)]) (asC := [(4, 0)]) (LN := [(0, (4, 0)), (1, (0, 2)), (2, (0, x2))]) (stN := []) (hsC := jpA_684) (ex := jpA_683) (v := (1, 0)) (st2 := [(1, 0)]) (hs2 := jpA_1685) (jA_209_159 (d := 0)) (by rfl) (by rfl) (by decide +kernel) (by rfl) (by rfl) (by omega) (by omega) (by omega) (by omega) rfl (by decide +kernel) ?_
  refine jT_xlstore_n (v := (1, 0)) (LN := [(3, (1, 0)), (0, (4, 0)), (1, (0, 2)), (2, (0, x2))]) (pcN := 38) jI_278_37 rfl rfl rfl rfl ?_
  refine jT_xiconst (k := 0) (pcN := 39) jI_278_38 rfl ?_
  refine jT_xistore (v := (0, 0)) (LN := [(5, (0, 0)), (3, (1, 0)), (0, (4, 0)), (1, (0, 2)), (2, (0, x2))]) (pcN := 41) jI_278_39 rfl rfl rfl rfl ?_
  refine jT_xiconst (k := 0) (pcN := 42) jI_278_41 rfl ?_
  refine jT_xistore (v := (0, 0)) (LN := [(6, (0, 0)), (5, (0, 0)), (3, (1, 0)), (0, (4, 0)), (1, (0, 2)), (2, (0, x2))]) (pcN := 44) jI_278_42 rfl rfl rfl rfl ?_
  refine jT_xiload (v := (0, 0)) (pcN := 46) jI_278_44 rfl rfl rfl ?_
  refine jT_xaload_n (v := (4, 0)) (pcN := 47) jI_278_46 rfl rfl rfl ?_
  refine jT_xiload_n (v := (0, 2)) (pcN := 48) jI_278_47 rfl rfl rfl ?_
  refine jT_fR [0, 1, 2, 3, 4, 5, 6, 7, 8, 9, 10, 11, 12, 13, 14, 15] 27 (y := 245) (pcN := 51) (dC := 0) (bc1 := 0) (bc2 := 0) (c1 := 1) (c2 := 6) (as := [(4, 0), (0, 2)]) (asC := [(4, 0), (0, 2)]) (LN := [(6, (0, 0)), (5, (0, 0)), (3, (1, 0)), (0, (4, 0)), (1, (0, 2)), (2, (0, x2))]) (stN := [(0, 0)]) (hsC := jpA_1519) (v := (0, 1)) (st2 := [(0, 1), (0, 0)]) (jA_245_379 (d := 0)) (by rfl) (by rfl) (by decide +kernel) (by rfl) (by rfl) (by omega) (by omega) (by omega) (by omega) rfl ?_
  refine jT_xicF (t := 107) (pcN := 54) jI_278_51 rfl (by decide +kernel) rfl rfl ?_
  refine jT_xlload_n (v := (1, 0)) (pcN := 55) jI_278_54 rfl rfl rfl ?_
  refine jT_adv 1 (pcN := 58) (LN := [(6, (0, 0)), (5, (0, 0)), (3, (1, 0)), (0, (4, 0)), (1, (0, 2)), (2, (0, x2))]) (stN := [(1, (-2147483648)), (1, 0)]) (hsN := jpA_1685) (c1 := 0) (s1 := 0) (c2 := 1) (s2 := 6) (by exact rfl) ?_ (by omega) (by omega)
  refine jT_lcmp (a := 0) (b := (-2147483648)) (z := 1) (by rfl) (by rfl) (by decide +kernel) (by decide +kernel) (by decide) ?_
  refine jT_xifF (t := 107) (pcN := 62) jI_278_59 rfl (by decide +kernel) rfl rfl ?_
  refine jT_xaload_n (v := (4, 0)) (pcN := 63) jI_278_62 rfl rfl rfl ?_
  refine jT_xaload_n (v := (4, 0)) (pcN := 64) jI_278_63 rfl rfl rfl ?_
  refine jT_xgetf (a := 0) (t := 1) (ci := 14) (fi := 1) (c := jzA_21) (v := (4, 1)) (pcN := 67) jI_278_64 rfl rfl rfl rfl rfl rfl rfl ?_
  refine jT_xiload_n (v := (0, 2)) (pcN := 68) jI_278_67 rfl rfl rfl ?_
  refine jT_xiload (v := (0, 0)) (pcN := 70) jI_278_68 rfl rfl rfl ?_
  refine jT_fR [] 27 (y := 242) (pcN := 73) (dC := 0) (bc1 := 0) (bc2 := 0) (c1 := 1) (c2 := 6) (as := [(0, 2), (0, 0)]) (asC := [(0, 2), (0, 0)]) (LN := [(6, (0, 0)), (5, (0, 0)), (3, (1, 0)), (0, (4, 0)), (1, (0, 2)), (2, (0, x2))]) (stN := [(4, 1), (4, 0)]) (hsC := []) (v := (0, 619)) (st2 := [(0, 619), (4, 1), (4, 0)]) (jA_242_380 (d := 0)) (by rfl) (by rfl) (by decide +kernel) (by rfl) (by rfl) (by omega) (by omega) (by omega) (by omega) rfl ?_
  refine jT_fA [0, 1, 2, 3, 4, 5, 6, 7, 8, 9, 10, 11, 12, 13, 14, 15] 27 (y := 240) (pcN := 76) (dC := 2) (bc1 := 1) (bc2 := 6) (c1 := 0) (c2 := 0) (as := [(4, 0), (4, 1), (0, 619)]) (asC := [(4, 0), (4, 1), (0, 619)]) (LN := [(6, (0, 0)), (5, (0, 0)), (3, (1, 0)), (0, (4, 0)), (1, (0, 2)), (2, (0, x2))]) (stN := []) (hsC := jpA_130) (ex := [(101, [], [0, 0, 0, 0, 0, 0])]) (v := (0, 0)) (st2 := [(0, 0)]) (hs2 := jpA_3519) (jA_240_875 (d := 0)) (by rfl) (by rfl) (by decide +kernel) (by rfl) (by rfl) (by omega) (by omega) (by omega) (by omega) rfl (by decide +kernel) ?_
  refine jT_xistore (v := (0, 0)) (LN := [(7, (0, 0)), (6, (0, 0)), (5, (0, 0)), (3, (1, 0)), (0, (4, 0)), (1, (0, 2)), (2, (0, x2))]) (pcN := 78) jI_278_76 rfl rfl rfl rfl ?_
  refine jT_xiload (v := (0, 0)) (pcN := 80) jI_278_78 rfl rfl rfl ?_
  refine jT_xifF (t := 86) (pcN := 83) jI_278_80 rfl (by decide +kernel) rfl rfl ?_
  refine jT_xiload (v := (0, 0)) (pcN := 85) jI_278_83 rfl rfl rfl ?_
  exact jT_ret rfl (by decide) (by show 22 ≤ 28; decide) (by omega) (by omega) ⟨rfl, rfl, rfl⟩
theorem jA_148_877 {xs : List Int} {d : Nat} {x2 : Int} (h_x2 : 0 ≤ x2 ∧ x2 ≤ 7) : jT xs (d + 5) 148 26 0 [(0, (4, 0)), (1, (0, 3)), (2, (0, x2))] [] jpA_1705 2 8 (fun k v hsN => k = 0 ∧ v = (0, 0) ∧ hsN = jpA_1705 ++ [(101, [], [0, 0, 0, 0, 0, 0]), (4, [(4, 26), (1, 1)], [])]) := by
  refine jT_xaload_n (v := (4, 0)) (pcN := 1) jI_148_0 rfl rfl rfl ?_
  refine jT_xiload_n (v := (0, 3)) (pcN := 2) jI_148_1 rfl rfl rfl ?_
  refine jT_xiconst (k := 4) (pcN := 3) jI_148_2 rfl ?_
  refine jT_fR [0] 26 (y := 115) (pcN := 6) (dC := 0) (bc1 := 0) (bc2 := 0) (c1 := 2) (c2 := 8) (as := [(4, 0), (0, 3), (0, 4)]) (asC := [(4, 0), (0, 3), (0, 4)]) (LN := [(0, (4, 0)), (1, (0, 3)), (2, (0, x2))]) (stN := []) (hsC := [jgh]) (v := (9, 0)) (st2 := []) (jA_115_387 (d := 0)) (by rfl) (by rfl) (by decide +kernel) (by rfl) (by rfl) (by omega) (by omega) (by omega) (by omega) rfl ?_
  refine jT_xaload_n (v := (4, 0)) (pcN := 7) jI_148_6 rfl rfl rfl ?_
  refine jT_xiload_n (v := (0, x2)) (pcN := 8) jI_148_7 rfl rfl rfl ?_
  refine jT_xbipush (k := 8) (pcN := 10) jI_148_8 (by decide) rfl ?_
  refine jT_fR [0] 26 (y := 115) (pcN := 13) (dC := 0) (bc1 := 0) (bc2 := 0) (c1 := 2) (c2 := 8) (as := [(4, 0), (0, x2), (0, 8)]) (asC := [(4, 0), (0, x2), (0, 8)]) (LN := [(0, (4, 0)), (1, (0, 3)), (2, (0, x2))]) (stN := []) (hsC := [jgh]) (v := (9, 0)) (st2 := []) (jA_115_16 (d := 0) (by omega)) (by rfl) (by rfl) (by decide +kernel) (by rfl) (by rfl) (by omega) (by omega) (by omega) (by omega) rfl ?_
  refine jT_xaload_n (v := (4, 0)) (pcN := 14) jI_148_13 rfl rfl rfl ?_
  refine jT_xgetf (a := 0) (t := 1) (ci := 13) (fi := 11) (c := jzA_5) (v := (4, 11)) (pcN := 17) jI_148_14 rfl rfl rfl rfl rfl rfl rfl ?_
  refine jT_xiload_n (v := (0, 3)) (pcN := 18) jI_148_17 rfl rfl rfl ?_
  refine jT_fR [11, 14, 15, 16, 17, 18, 20, 21, 22, 23] 26 (y := 56) (pcN := 21) (dC := 0) (bc1 := 0) (bc2 := 0) (c1 := 2) (c2 := 8) (as := [(4, 11), (0, 3)]) (asC := [(4, 0), (0, 3)]) (LN := [(0, (4, 0)), (1, (0, 3)), (2, (0, x2))]) (stN := []) (hsC := jpA_1446) (v := (4, 9)) (st2 := [(4, 23)]) (jA_56_388 (d := 0)) (by rfl) (by rfl) (by decide +kernel) (by rfl) (by rfl) (by omega) (by omega) (by omega) (by omega) rfl ?_
  refine jT_xaload_n (v := (4, 0)) (pcN := 22) jI_148_21 rfl rfl rfl ?_
  refine jT_xaload_n (v := (4, 0)) (pcN := 23) jI_148_22 rfl rfl rfl ?_
  refine jT_xgetf (a := 0) (t := 1) (ci := 13) (fi := 11) (c := jzA_5) (v := (4, 11)) (pcN := 26) jI_148_23 rfl rfl rfl rfl rfl rfl rfl ?_
  refine jT_xiload_n (v := (0, x2)) (pcN := 27) jI_148_26 rfl rfl rfl ?_
  refine jT_fR [11, 14, 15, 16, 17, 18, 19] 26 (y := 57) (pcN := 30) (dC := 0) (bc1 := 0) (bc2 := 0) (c1 := 2) (c2 := 8) (as := [(4, 11), (0, x2)]) (asC := [(4, 0), (0, x2)]) (LN := [(0, (4, 0)), (1, (0, 3)), (2, (0, x2))]) (stN := [(4, 0), (4, 23)]) (hsC := jpA_47) (v := (4, 6)) (st2 := [(4, 19), (4, 0), (4, 23)]) (jA_57_24 (d := 0) (by omega)) (by rfl) (by rfl) (by decide +kernel) (by rfl) (by rfl) (by omega) (by omega) (by omega) (by omega) rfl ?_
  refine jT_xiconst (k := 1) (pcN := 31) jI_148_30 rfl ?_
  refine jT_fA [0, 19, 1, 2, 3, 4, 5, 6, 7, 8, 9, 10, 11, 24, 12, 13] 26 (y := 127) (pcN := 34) (dC := 3) (bc1 := 2) (bc2 := 8) (c1 := 0) (c2 := 0) (as := [(4, 0), (4, 19), (0, 1)]) (asC := [(4, 0), (4, 1), (0, 1)]) (LN := [(0, (4, 0)), (1, (0, 3)), (2, (0, x2))]) (stN := [(4, 23)]) (hsC := jpA_1447) (ex := [(101, [], [0, 0, 0, 0, 0, 0]), (4, [(4, 16), (1, 1)], [])]) (v := (4, 17)) (st2 := [(4, 27), (4, 23)]) (hs2 := jpA_1704) (jA_127_323 (d := 0)) (by rfl) (by rfl) (by decide +kernel) (by rfl) (by rfl) (by omega) (by omega) (by omega) (by omega) rfl (by decide +kernel) ?_
  refine jT_xaload_n (v := (4, 0)) (pcN := 35) jI_148_34 rfl rfl rfl ?_
  refine jT_xgetf (a := 0) (t := 1) (ci := 13) (fi := 0) (c := jzA_5) (v := (4, 1)) (pcN := 38) jI_148_35 rfl rfl rfl rfl rfl rfl rfl ?_
  refine jT_fR [23, 27, 1, 25, 26, 12, 13, 19, 24] 28 (y := 33) (pcN := 41) (dC := 4) (bc1 := 0) (bc2 := 0) (c1 := 0) (c2 := 0) (as := [(4, 23), (4, 27), (4, 1)]) (asC := [(4, 0), (4, 1), (4, 2)]) (LN := [(0, (4, 0)), (1, (0, 3)), (2, (0, x2))]) (stN := []) (hsC := jpA_1451) (v := (0, 0)) (st2 := [(0, 0)]) (jA_33_328 (d := 0)) (by rfl) (by rfl) (by decide +kernel) (by rfl) (by rfl) (by omega) (by omega) (by omega) (by omega) rfl ?_
  exact jT_ret rfl (by decide) (by show 26 ≤ 28; decide) (by omega) (by omega) ⟨rfl, rfl, rfl⟩
def jpA_3529 : List JC := [jzA_14, (101, [], [0]), (8, [(4, 13), (4, 14)], []), jgh, jgh, jgh, jgh, jgh, jgh, (101, [], [0, 0, 0, 0, 0, 0]), jgh, jgh, jzA_659, jgh, (101, [], [0, 0, 0, 0, 0, 0]), jzA_660, (117, [], [21, 22, 23, 24]), jgh, jgh, jgh, (4, [(4, 25), (1, 1)], []), jgh, jgh, jgh, (7, [(4, 26), (4, (-1)), (4, (-1))], []), (101, [], [0, 0, 0, 0, 0, 0]), (114, [], [20]), (101, [], [0, 0, 0, 0, 0, 0]), (4, [(4, 27), (1, 1)], [])]
def jpA_3530 : List JC := [jzA_14, (101, [], [0]), (8, [(4, 13), (4, 14)], []), jgh, jgh, jgh, jgh, jgh, jgh, (101, [], [0, 0, 0, 0, 0, 0]), jgh, jgh, jzA_659, jgh, (101, [], [0, 0, 0, 0, 0, 0]), jzA_660, (117, [], [21, 22, 23, 24]), jgh, jgh, jgh, (4, [(4, 25), (1, 1)], []), jgh, jgh, jgh, (7, [(4, 26), (4, (-1)), (4, (-1))], []), (101, [], [0, 0, 0, 0, 0, 0]), (114, [], [20])]
theorem jA_353_878 {xs : List Int} {d : Nat} {x2 : Int} (h_x2 : 0 ≤ x2 ∧ x2 ≤ 7) : jT xs (d + 6) 353 27 0 [(0, (4, 0)), (1, (0, 3)), (2, (0, x2)), (3, (4, 1))] [] jpA_3530 2 8 (fun k v hsN => k = 0 ∧ v = (0, 0) ∧ hsN = jpA_3530 ++ [(101, [], [0, 0, 0, 0, 0, 0]), (4, [(4, 27), (1, 1)], [])]) := by
  refine jT_xaload_n (v := (4, 1)) (pcN := 1) jI_353_0 rfl rfl rfl ?_
  refine jT_xiconst (k := 0) (pcN := 2) jI_353_1 rfl ?_
  refine jT_xaload_n (v := (4, 0)) (pcN := 3) jI_353_2 rfl rfl rfl ?_
  refine jT_xiload_n (v := (0, 3)) (pcN := 4) jI_353_3 rfl rfl rfl ?_
  refine jT_xiload_n (v := (0, x2)) (pcN := 5) jI_353_4 rfl rfl rfl ?_
  refine jT_fA [0, 2, 3, 4, 5, 6, 7, 8, 9, 10, 11, 12, 13, 14, 15, 16, 17, 18, 19, 20, 21, 22, 23, 24, 25, 26] 27 (y := 148) (pcN := 8) (dC := 5) (bc1 := 2) (bc2 := 8) (c1 := 0) (c2 := 0) (as := [(4, 0), (0, 3), (0, x2)]) (asC := [(4, 0), (0, 3), (0, x2)]) (LN := [(0, (4, 0)), (1, (0, 3)), (2, (0, x2)), (3, (4, 1))]) (stN := [(0, 0), (4, 1)]) (hsC := jpA_1705) (ex := [(101, [], [0, 0, 0, 0, 0, 0]), (4, [(4, 26), (1, 1)], [])]) (v := (0, 0)) (st2 := [(0, 0), (0, 0), (4, 1)]) (hs2 := jpA_3529) (jA_148_877 (d := 0) (by omega)) (by rfl) (by rfl) (by decide +kernel) (by rfl) (by rfl) (by omega) (by omega) (by omega) (by omega) rfl (by decide +kernel) ?_
  refine jT_xi2l (x := 0) (z := 0) (pcN := 9) jI_353_8 rfl (by decide +kernel) rfl ?_
  refine jT_adv 1 (pcN := 10) (LN := [(0, (4, 0)), (1, (0, 3)), (2, (0, x2)), (3, (4, 1))]) (stN := []) (hsN := jpA_3529) (c1 := 0) (s1 := 0) (c2 := 0) (s2 := 0) (by exact rfl) ?_ (by omega) (by omega)
  refine jT_xgoto (pcN := 17) jI_353_10 rfl ?_
  refine jT_xiconst (k := 0) (pcN := 18) jI_353_17 rfl ?_
  exact jT_ret rfl (by decide) (by show 27 ≤ 29; decide) (by omega) (by omega) ⟨rfl, rfl, rfl⟩
theorem jA_240_879 {xs : List Int} {d : Nat} : jT xs (d + 2) 240 16 0 [(0, (4, 0)), (1, (4, 1)), (2, (0, 900))] [] jpA_130 1 6 (fun k v hsN => k = 0 ∧ v = (0, 0) ∧ hsN = jpA_130 ++ [(101, [], [0, 0, 0, 0, 0, 0])]) := by
  refine jT_advK 18 (pcN := 30) (LN := [(4, (0, 0)), (3, (4, 16)), (0, (4, 0)), (1, (4, 1)), (2, (0, 900))]) (stN := [(0, 906), (4, 1), (1, 0), (0, 0), (4, 16)]) (hsN := jpA_2985) (c1 := 1) (s1 := 6) (c2 := 0) (s2 := 0) (by decide +kernel) ?_ (by omega) (by omega)
  refine jT_iald (x := 1) (a := 1) (j := 906) (fs := []) (X := jS0) (by rfl) (by rfl) (by rfl) (by rfl) (by decide +kernel) ?_
  refine jT_eq (LN := [(4, (0, 0)), (3, (4, 16)), (0, (4, 0)), (1, (4, 1)), (2, (0, 900))]) (stN := [(0, 1), (1, 0), (0, 0), (4, 16)]) (hsN := jpA_2985) rfl rfl rfl ?_
  refine jT_advK 6 (pcN := 38) (LN := [(4, (0, 0)), (3, (4, 16)), (0, (4, 0)), (1, (4, 1)), (2, (0, 900))]) (stN := [(0, 900), (4, 1), (1, 0), (0, 0), (4, 16)]) (hsN := jpA_2985) (c1 := 0) (s1 := 0) (c2 := 0) (s2 := 0) (by decide +kernel) ?_ (by omega) (by omega)
  refine jT_iald (x := 0) (a := 1) (j := 900) (fs := []) (X := jS0) (by rfl) (by rfl) (by rfl) (by rfl) (by decide +kernel) ?_
  refine jT_eq (LN := [(4, (0, 0)), (3, (4, 16)), (0, (4, 0)), (1, (4, 1)), (2, (0, 900))]) (stN := [(0, 0), (1, 0), (0, 0), (4, 16)]) (hsN := jpA_2985) rfl rfl rfl ?_
  refine jT_advK 21 (pcN := 30) (LN := [(4, (0, 1)), (3, (4, 16)), (0, (4, 0)), (1, (4, 1)), (2, (0, 900))]) (stN := [(0, 906), (4, 1), (1, 0), (0, 1), (4, 16)]) (hsN := jpA_2985) (c1 := 0) (s1 := 0) (c2 := 0) (s2 := 0) (by decide +kernel) ?_ (by omega) (by omega)
  refine jT_iald (x := 1) (a := 1) (j := 906) (fs := []) (X := jS0) (by rfl) (by rfl) (by rfl) (by rfl) (by decide +kernel) ?_
  refine jT_eq (LN := [(4, (0, 1)), (3, (4, 16)), (0, (4, 0)), (1, (4, 1)), (2, (0, 900))]) (stN := [(0, 1), (1, 0), (0, 1), (4, 16)]) (hsN := jpA_2985) rfl rfl rfl ?_
  refine jT_advK 6 (pcN := 38) (LN := [(4, (0, 1)), (3, (4, 16)), (0, (4, 0)), (1, (4, 1)), (2, (0, 900))]) (stN := [(0, 901), (4, 1), (1, 0), (0, 1), (4, 16)]) (hsN := jpA_2985) (c1 := 0) (s1 := 0) (c2 := 0) (s2 := 0) (by decide +kernel) ?_ (by omega) (by omega)
  refine jT_iald (x := 0) (a := 1) (j := 901) (fs := []) (X := jS0) (by rfl) (by rfl) (by rfl) (by rfl) (by decide +kernel) ?_
  refine jT_eq (LN := [(4, (0, 1)), (3, (4, 16)), (0, (4, 0)), (1, (4, 1)), (2, (0, 900))]) (stN := [(0, 0), (1, 0), (0, 1), (4, 16)]) (hsN := jpA_2985) rfl rfl rfl ?_
  refine jT_advK 21 (pcN := 30) (LN := [(4, (0, 2)), (3, (4, 16)), (0, (4, 0)), (1, (4, 1)), (2, (0, 900))]) (stN := [(0, 906), (4, 1), (1, 0), (0, 2), (4, 16)]) (hsN := jpA_2985) (c1 := 0) (s1 := 0) (c2 := 0) (s2 := 0) (by decide +kernel) ?_ (by omega) (by omega)
  refine jT_iald (x := 1) (a := 1) (j := 906) (fs := []) (X := jS0) (by rfl) (by rfl) (by rfl) (by rfl) (by decide +kernel) ?_
  refine jT_eq (LN := [(4, (0, 2)), (3, (4, 16)), (0, (4, 0)), (1, (4, 1)), (2, (0, 900))]) (stN := [(0, 1), (1, 0), (0, 2), (4, 16)]) (hsN := jpA_2985) rfl rfl rfl ?_
  refine jT_advK 6 (pcN := 38) (LN := [(4, (0, 2)), (3, (4, 16)), (0, (4, 0)), (1, (4, 1)), (2, (0, 900))]) (stN := [(0, 902), (4, 1), (1, 0), (0, 2), (4, 16)]) (hsN := jpA_2985) (c1 := 0) (s1 := 0) (c2 := 0) (s2 := 0) (by decide +kernel) ?_ (by omega) (by omega)
  refine jT_iald (x := 0) (a := 1) (j := 902) (fs := []) (X := jS0) (by rfl) (by rfl) (by rfl) (by rfl) (by decide +kernel) ?_
  refine jT_eq (LN := [(4, (0, 2)), (3, (4, 16)), (0, (4, 0)), (1, (4, 1)), (2, (0, 900))]) (stN := [(0, 0), (1, 0), (0, 2), (4, 16)]) (hsN := jpA_2985) rfl rfl rfl ?_
  refine jT_advK 21 (pcN := 30) (LN := [(4, (0, 3)), (3, (4, 16)), (0, (4, 0)), (1, (4, 1)), (2, (0, 900))]) (stN := [(0, 906), (4, 1), (1, 0), (0, 3), (4, 16)]) (hsN := jpA_2985) (c1 := 0) (s1 := 0) (c2 := 0) (s2 := 0) (by decide +kernel) ?_ (by omega) (by omega)
  refine jT_iald (x := 1) (a := 1) (j := 906) (fs := []) (X := jS0) (by rfl) (by rfl) (by rfl) (by rfl) (by decide +kernel) ?_
  refine jT_eq (LN := [(4, (0, 3)), (3, (4, 16)), (0, (4, 0)), (1, (4, 1)), (2, (0, 900))]) (stN := [(0, 1), (1, 0), (0, 3), (4, 16)]) (hsN := jpA_2985) rfl rfl rfl ?_
  refine jT_advK 6 (pcN := 38) (LN := [(4, (0, 3)), (3, (4, 16)), (0, (4, 0)), (1, (4, 1)), (2, (0, 900))]) (stN := [(0, 903), (4, 1), (1, 0), (0, 3), (4, 16)]) (hsN := jpA_2985) (c1 := 0) (s1 := 0) (c2 := 0) (s2 := 0) (by decide +kernel) ?_ (by omega) (by omega)
  refine jT_iald (x := 0) (a := 1) (j := 903) (fs := []) (X := jS0) (by rfl) (by rfl) (by rfl) (by rfl) (by decide +kernel) ?_
  refine jT_eq (LN := [(4, (0, 3)), (3, (4, 16)), (0, (4, 0)), (1, (4, 1)), (2, (0, 900))]) (stN := [(0, 0), (1, 0), (0, 3), (4, 16)]) (hsN := jpA_2985) rfl rfl rfl ?_
  refine jT_advK 21 (pcN := 30) (LN := [(4, (0, 4)), (3, (4, 16)), (0, (4, 0)), (1, (4, 1)), (2, (0, 900))]) (stN := [(0, 906), (4, 1), (1, 0), (0, 4), (4, 16)]) (hsN := jpA_2985) (c1 := 0) (s1 := 0) (c2 := 0) (s2 := 0) (by decide +kernel) ?_ (by omega) (by omega)
  refine jT_iald (x := 1) (a := 1) (j := 906) (fs := []) (X := jS0) (by rfl) (by rfl) (by rfl) (by rfl) (by decide +kernel) ?_
  refine jT_eq (LN := [(4, (0, 4)), (3, (4, 16)), (0, (4, 0)), (1, (4, 1)), (2, (0, 900))]) (stN := [(0, 1), (1, 0), (0, 4), (4, 16)]) (hsN := jpA_2985) rfl rfl rfl ?_
  refine jT_advK 6 (pcN := 38) (LN := [(4, (0, 4)), (3, (4, 16)), (0, (4, 0)), (1, (4, 1)), (2, (0, 900))]) (stN := [(0, 904), (4, 1), (1, 0), (0, 4), (4, 16)]) (hsN := jpA_2985) (c1 := 0) (s1 := 0) (c2 := 0) (s2 := 0) (by decide +kernel) ?_ (by omega) (by omega)
  refine jT_iald (x := 0) (a := 1) (j := 904) (fs := []) (X := jS0) (by rfl) (by rfl) (by rfl) (by rfl) (by decide +kernel) ?_
  refine jT_eq (LN := [(4, (0, 4)), (3, (4, 16)), (0, (4, 0)), (1, (4, 1)), (2, (0, 900))]) (stN := [(0, 0), (1, 0), (0, 4), (4, 16)]) (hsN := jpA_2985) rfl rfl rfl ?_
  refine jT_advK 21 (pcN := 30) (LN := [(4, (0, 5)), (3, (4, 16)), (0, (4, 0)), (1, (4, 1)), (2, (0, 900))]) (stN := [(0, 906), (4, 1), (1, 0), (0, 5), (4, 16)]) (hsN := jpA_2985) (c1 := 0) (s1 := 0) (c2 := 0) (s2 := 0) (by decide +kernel) ?_ (by omega) (by omega)
  refine jT_iald (x := 1) (a := 1) (j := 906) (fs := []) (X := jS0) (by rfl) (by rfl) (by rfl) (by rfl) (by decide +kernel) ?_
  refine jT_eq (LN := [(4, (0, 5)), (3, (4, 16)), (0, (4, 0)), (1, (4, 1)), (2, (0, 900))]) (stN := [(0, 1), (1, 0), (0, 5), (4, 16)]) (hsN := jpA_2985) rfl rfl rfl ?_
  refine jT_advK 6 (pcN := 38) (LN := [(4, (0, 5)), (3, (4, 16)), (0, (4, 0)), (1, (4, 1)), (2, (0, 900))]) (stN := [(0, 905), (4, 1), (1, 0), (0, 5), (4, 16)]) (hsN := jpA_2985) (c1 := 0) (s1 := 0) (c2 := 0) (s2 := 0) (by decide +kernel) ?_ (by omega) (by omega)
  refine jT_iald (x := 0) (a := 1) (j := 905) (fs := []) (X := jS0) (by rfl) (by rfl) (by rfl) (by rfl) (by decide +kernel) ?_
  refine jT_eq (LN := [(4, (0, 5)), (3, (4, 16)), (0, (4, 0)), (1, (4, 1)), (2, (0, 900))]) (stN := [(0, 0), (1, 0), (0, 5), (4, 16)]) (hsN := jpA_2985) rfl rfl rfl ?_
  refine jT_advK 13 (pcN := 55) (LN := [(4, (0, 6)), (3, (4, 16)), (0, (4, 0)), (1, (4, 1)), (2, (0, 900))]) (stN := [(4, 16), (4, 0)]) (hsN := jpA_2985) (c1 := 0) (s1 := 0) (c2 := 0) (s2 := 0) (by decide +kernel) ?_ (by omega) (by omega)
  refine jT_fR [0, 16] 17 (y := 213) (pcN := 58) (dC := 1) (bc1 := 0) (bc2 := 0) (c1 := 0) (c2 := 0) (as := [(4, 0), (4, 16)]) (asC := [(4, 0), (4, 1)]) (LN := [(4, (0, 6)), (3, (4, 16)), (0, (4, 0)), (1, (4, 1)), (2, (0, 900))]) (stN := []) (hsC := [jgh, (101, [], [0, 0, 0, 0, 0, 0])]) (v := (0, 0)) (st2 := [(0, 0)]) (jA_213_152 (d := 0)) (by rfl) (by rfl) (by decide +kernel) (by rfl) (by rfl) (by omega) (by omega) (by omega) (by omega) rfl ?_
  exact jT_ret rfl (by decide) (by show 16 ≤ 17; decide) (by omega) (by omega) ⟨rfl, rfl, rfl⟩
theorem jA_278_880 {xs : List Int} {d : Nat} {x2 : Int} (h_x2 : 0 ≤ x2 ∧ x2 ≤ 7) : jT xs (d + 7) 278 22 0 [(0, (4, 0)), (1, (0, 3)), (2, (0, x2))] [] jpA_1695 6 186 (fun k v hsN => k = 0 ∧ v = (0, 0) ∧ hsN = jpA_1695 ++ jpA_3524) := by
  refine jT_xaload_n (v := (4, 0)) (pcN := 1) jI_278_0 rfl rfl rfl ?_
  refine jT_xiload_n (v := (0, 3)) (pcN := 2) jI_278_1 rfl rfl rfl ?_
  refine jT_fR [] 22 (y := 238) (pcN := 5) (dC := 1) (bc1 := 0) (bc2 := 0) (c1 := 6) (c2 := 186) (as := [(0, 3)]) (asC := [(0, 3)]) (LN := [(0, (4, 0)), (1, (0, 3)), (2, (0, x2))]) (stN := [(4, 0)]) (hsC := []) (v := (0, 1)) (st2 := [(0, 1), (4, 0)]) (jA_238_393 (d := 0)) (by rfl) (by rfl) (by decide +kernel) (by rfl) (by rfl) (by omega) (by omega) (by omega) (by omega) rfl ?_
  refine jT_xifF (t := 19) (pcN := 8) jI_278_5 rfl (by decide +kernel) rfl rfl ?_
  refine jT_xiload_n (v := (0, x2)) (pcN := 9) jI_278_8 rfl rfl rfl ?_
  refine jT_fR [] 22 (y := 188) (pcN := 12) (dC := 1) (bc1 := 0) (bc2 := 0) (c1 := 6) (c2 := 186) (as := [(0, x2)]) (asC := [(0, x2)]) (LN := [(0, (4, 0)), (1, (0, 3)), (2, (0, x2))]) (stN := [(4, 0)]) (hsC := []) (v := (0, 1)) (st2 := [(0, 1), (4, 0)]) (jA_188_20 (d := 0) (by omega)) (by rfl) (by rfl) (by decide +kernel) (by rfl) (by rfl) (by omega) (by omega) (by omega) (by omega) rfl ?_
  refine jT_xifF (t := 19) (pcN := 15) jI_278_12 rfl (by decide +kernel) rfl rfl ?_
  refine jT_xiconst (k := 1) (pcN := 16) jI_278_15 rfl ?_
  refine jT_xgoto (pcN := 20) jI_278_16 rfl ?_
  refine jT_fR [0, 1, 2, 3, 4, 5, 6, 7, 8, 9, 10, 11, 12, 13, 14, 15] 22 (y := 190) (pcN := 23) (dC := 1) (bc1 := 0) (bc2 := 0) (c1 := 6) (c2 := 186) (as := [(4, 0), (0, 1)]) (asC := [(4, 0), (0, 1)]) (LN := [(0, (4, 0)), (1, (0, 3)), (2, (0, x2))]) (stN := []) (hsC := jpA_22) (v := (0, 0)) (st2 := [(0, 0)]) (jA_190_39 (d := 0)) (by rfl) (by rfl) (by decide +kernel) (by rfl) (by rfl) (by omega) (by omega) (by omega) (by omega) rfl ?_
  refine jT_xifT (pcN := 28) jI_278_23 rfl (by decide +kernel) rfl ?_
  refine jT_xaload_n (v := (4, 0)) (pcN := 29) jI_278_28 rfl rfl rfl ?_
  refine jT_xiload_n (v := (0, x2)) (pcN := 30) jI_278_29 rfl rfl rfl ?_
  refine jT_fR [0, 1, 2, 3, 4, 5, 6, 7, 8, 9, 10, 11, 12, 13, 14, 15] 22 (y := 202) (pcN := 33) (dC := 1) (bc1 := 0) (bc2 := 0) (c1 := 6) (c2 := 186) (as := [(4, 0), (0, x2)]) (asC := [(4, 0), (0, x2)]) (LN := [(0, (4, 0)), (1, (0, 3)), (2, (0, x2))]) (stN := []) (hsC := jpA_130) (v := (9, 0)) (st2 := []) (jA_202_41 (d := 0) (by omega)) (by rfl) (by rfl) (by decide +kernel) (by rfl) (by rfl) (by omega) (by omega) (by omega) (by omega) rfl ?_
  refine jT_xaload_n (v := (4, 0)) (pcN := 34) jI_278_33 rfl rfl rfl ?_
  refine jT_fA [0, 1, 2, 3, 4, 5, 6, 7, 8, 9, 10, 11, 12, 13, 14, 15, 16, 17, 18, 19, 20, 21] 22 (y := 209) (pcN := 37) (dC := 6) (bc1 := 5) (bc2 := 180) (c1 := 1) (c2 := 6) (as := [(4, 0)]) (asC := [(4, 0)]) (LN := [(0, (4, 0)), (1, (0, 3)), (2, (0, x2))]) (stN := []) (hsC := jpA_684) (ex := jpA_683) (v := (1, 0)) (st2 := [(1, 0)]) (hs2 := jpA_1685) (jA_209_159 (d := 0)) (by rfl) (by rfl) (by decide +kernel) (by rfl) (by rfl) (by omega) (by omega) (by omega) (by omega) rfl (by decide +kernel) ?_
  refine jT_xlstore_n (v := (1, 0)) (LN := [(3, (1, 0)), (0, (4, 0)), (1, (0, 3)), (2, (0, x2))]) (pcN := 38) jI_278_37 rfl rfl rfl rfl ?_
  refine jT_xiconst (k := 0) (pcN := 39) jI_278_38 rfl ?_
  refine jT_xistore (v := (0, 0)) (LN := [(5, (0, 0)), (3, (1, 0)), (0, (4, 0)), (1, (0, 3)), (2, (0, x2))]) (pcN := 41) jI_278_39 rfl rfl rfl rfl ?_
  refine jT_xiconst (k := 0) (pcN := 42) jI_278_41 rfl ?_
  refine jT_xistore (v := (0, 0)) (LN := [(6, (0, 0)), (5, (0, 0)), (3, (1, 0)), (0, (4, 0)), (1, (0, 3)), (2, (0, x2))]) (pcN := 44) jI_278_42 rfl rfl rfl rfl ?_
  refine jT_xiload (v := (0, 0)) (pcN := 46) jI_278_44 rfl rfl rfl ?_
  refine jT_xaload_n (v := (4, 0)) (pcN := 47) jI_278_46 rfl rfl rfl ?_
  refine jT_xiload_n (v := (0, 3)) (pcN := 48) jI_278_47 rfl rfl rfl ?_
  refine jT_fR [0, 1, 2, 3, 4, 5, 6, 7, 8, 9, 10, 11, 12, 13, 14, 15] 27 (y := 245) (pcN := 51) (dC := 0) (bc1 := 0) (bc2 := 0) (c1 := 1) (c2 := 6) (as := [(4, 0), (0, 3)]) (asC := [(4, 0), (0, 3)]) (LN := [(6, (0, 0)), (5, (0, 0)), (3, (1, 0)), (0, (4, 0)), (1, (0, 3)), (2, (0, x2))]) (stN := [(0, 0)]) (hsC := jpA_1519) (v := (0, 1)) (st2 := [(0, 1), (0, 0)]) (jA_245_394 (d := 0)) (by rfl) (by rfl) (by decide +kernel) (by rfl) (by rfl) (by omega) (by omega) (by omega) (by omega) rfl ?_
  refine jT_xicF (t := 107) (pcN := 54) jI_278_51 rfl (by decide +kernel) rfl rfl ?_
  refine jT_xlload_n (v := (1, 0)) (pcN := 55) jI_278_54 rfl rfl rfl ?_
  refine jT_adv 1 (pcN := 58) (LN := [(6, (0, 0)), (5, (0, 0)), (3, (1, 0)), (0, (4, 0)), (1, (0, 3)), (2, (0, x2))]) (stN := [(1, (-2147483648)), (1, 0)]) (hsN := jpA_1685) (c1 := 0) (s1 := 0) (c2 := 1) (s2 := 6) (by exact rfl) ?_ (by omega) (by omega)
  refine jT_lcmp (a := 0) (b := (-2147483648)) (z := 1) (by rfl) (by rfl) (by decide +kernel) (by decide +kernel) (by decide) ?_
  refine jT_xifF (t := 107) (pcN := 62) jI_278_59 rfl (by decide +kernel) rfl rfl ?_
  refine jT_xaload_n (v := (4, 0)) (pcN := 63) jI_278_62 rfl rfl rfl ?_
  refine jT_xaload_n (v := (4, 0)) (pcN := 64) jI_278_63 rfl rfl rfl ?_
  refine jT_xgetf (a := 0) (t := 1) (ci := 14) (fi := 1) (c := jzA_21) (v := (4, 1)) (pcN := 67) jI_278_64 rfl rfl rfl rfl rfl rfl rfl ?_
  refine jT_xiload_n (v := (0, 3)) (pcN := 68) jI_278_67 rfl rfl rfl ?_
  refine jT_xiload (v := (0, 0)) (pcN := 70) jI_278_68 rfl rfl rfl ?_
  refine jT_fR [] 27 (y := 242) (pcN := 73) (dC := 0) (bc1 := 0) (bc2 := 0) (c1 := 1) (c2 := 6) (as := [(0, 3), (0, 0)]) (asC := [(0, 3), (0, 0)]) (LN := [(6, (0, 0)), (5, (0, 0)), (3, (1, 0)), (0, (4, 0)), (1, (0, 3)), (2, (0, x2))]) (stN := [(4, 1), (4, 0)]) (hsC := []) (v := (0, 900)) (st2 := [(0, 900), (4, 1), (4, 0)]) (jA_242_395 (d := 0)) (by rfl) (by rfl) (by decide +kernel) (by rfl) (by rfl) (by omega) (by omega) (by omega) (by omega) rfl ?_
  refine jT_fA [0, 1, 2, 3, 4, 5, 6, 7, 8, 9, 10, 11, 12, 13, 14, 15] 27 (y := 240) (pcN := 76) (dC := 2) (bc1 := 1) (bc2 := 6) (c1 := 0) (c2 := 0) (as := [(4, 0), (4, 1), (0, 900)]) (asC := [(4, 0), (4, 1), (0, 900)]) (LN := [(6, (0, 0)), (5, (0, 0)), (3, (1, 0)), (0, (4, 0)), (1, (0, 3)), (2, (0, x2))]) (stN := []) (hsC := jpA_130) (ex := [(101, [], [0, 0, 0, 0, 0, 0])]) (v := (0, 0)) (st2 := [(0, 0)]) (hs2 := jpA_3519) (jA_240_879 (d := 0)) (by rfl) (by rfl) (by decide +kernel) (by rfl) (by rfl) (by omega) (by omega) (by omega) (by omega) rfl (by decide +kernel) ?_
  refine jT_xistore (v := (0, 0)) (LN := [(7, (0, 0)), (6, (0, 0)), (5, (0, 0)), (3, (1, 0)), (0, (4, 0)), (1, (0, 3)), (2, (0, x2))]) (pcN := 78) jI_278_76 rfl rfl rfl rfl ?_
  refine jT_xiload (v := (0, 0)) (pcN := 80) jI_278_78 rfl rfl rfl ?_
  refine jT_xifF (t := 86) (pcN := 83) jI_278_80 rfl (by decide +kernel) rfl rfl ?_
  refine jT_xiload (v := (0, 0)) (pcN := 85) jI_278_83 rfl rfl rfl ?_
  exact jT_ret rfl (by decide) (by show 22 ≤ 28; decide) (by omega) (by omega) ⟨rfl, rfl, rfl⟩
theorem jA_148_881 {xs : List Int} {d : Nat} {x1 x2 : Int} (h_x1 : 0 ≤ x1 ∧ x1 ≤ 3) (h_x2 : 8 ≤ x2 ∧ x2 ≤ 2147483647) : jT xs (d + 1) 148 12 0 [(0, (4, 0)), (1, (0, x1)), (2, (0, x2))] [] jpA_6 1 6 (fun k v hsN => k = 1 ∧ v = (0, 0) ∧ hsN = jpA_6 ++ []) := by
  refine jT_xaload_n (v := (4, 0)) (pcN := 1) jI_148_0 rfl rfl rfl ?_
  refine jT_xiload_n (v := (0, x1)) (pcN := 2) jI_148_1 rfl rfl rfl ?_
  refine jT_xiconst (k := 4) (pcN := 3) jI_148_2 rfl ?_
  refine jT_fR [0] 12 (y := 115) (pcN := 6) (dC := 0) (bc1 := 0) (bc2 := 0) (c1 := 1) (c2 := 6) (as := [(4, 0), (0, x1), (0, 4)]) (asC := [(4, 0), (0, x1), (0, 4)]) (LN := [(0, (4, 0)), (1, (0, x1)), (2, (0, x2))]) (stN := []) (hsC := [jgh]) (v := (9, 0)) (st2 := []) (jA_115_315 (d := 0) (by omega)) (by rfl) (by rfl) (by decide +kernel) (by rfl) (by rfl) (by omega) (by omega) (by omega) (by omega) rfl ?_
  refine jT_xaload_n (v := (4, 0)) (pcN := 7) jI_148_6 rfl rfl rfl ?_
  refine jT_xiload_n (v := (0, x2)) (pcN := 8) jI_148_7 rfl rfl rfl ?_
  refine jT_xbipush (k := 8) (pcN := 10) jI_148_8 (by decide) rfl ?_
  exact jT_fX [0] 12 (y := 115) (pcN := 13) (dC := 0) (bc1 := 1) (bc2 := 6) (as := [(4, 0), (0, x2), (0, 8)]) (asC := [(4, 0), (0, x2), (0, 8)]) (LN := [(0, (4, 0)), (1, (0, x1)), (2, (0, x2))]) (stN := []) (hsC := [jgh]) (e := 0) (jA_115_60 (d := 0) (by omega)) (by rfl) (by rfl) (by decide +kernel) (by rfl) (by rfl) (by omega) (by omega) (by omega) (by omega) ⟨rfl, ⟨rfl, rfl, rfl⟩⟩
theorem jA_353_882 {xs : List Int} {d : Nat} {x1 x2 : Int} (h_x1 : 0 ≤ x1 ∧ x1 ≤ 3) (h_x2 : 8 ≤ x2 ∧ x2 ≤ 2147483647) : jT xs (d + 2) 353 13 0 [(0, (4, 0)), (1, (0, x1)), (2, (0, x2)), (3, (4, 1))] [] jpA_15 1 6 (fun k v hsN => k = 0 ∧ v = (0, 1) ∧ hsN = jpA_15 ++ []) := by
  refine jT_xaload_n (v := (4, 1)) (pcN := 1) jI_353_0 rfl rfl rfl ?_
  refine jT_xiconst (k := 0) (pcN := 2) jI_353_1 rfl ?_
  refine jT_xaload_n (v := (4, 0)) (pcN := 3) jI_353_2 rfl rfl rfl ?_
  refine jT_xiload_n (v := (0, x1)) (pcN := 4) jI_353_3 rfl rfl rfl ?_
  refine jT_xiload_n (v := (0, x2)) (pcN := 5) jI_353_4 rfl rfl rfl ?_
  exact jT_fX [0, 2, 3, 4, 5, 6, 7, 8, 9, 10, 11, 12] 13 (y := 148) (pcN := 8) (dC := 1) (bc1 := 1) (bc2 := 6) (as := [(4, 0), (0, x1), (0, x2)]) (asC := [(4, 0), (0, x1), (0, x2)]) (LN := [(0, (4, 0)), (1, (0, x1)), (2, (0, x2)), (3, (4, 1))]) (stN := [(0, 0), (4, 1)]) (hsC := jpA_6) (e := 0) (jA_148_881 (d := 0) (by omega) (by omega)) (by rfl) (by rfl) (by decide +kernel) (by rfl) (by rfl) (by omega) (by omega) (by omega) (by omega) (show _ from ⟨rfl, rfl, rfl⟩)
theorem jA_278_883 {xs : List Int} {d : Nat} {x1 x2 : Int} (h_x1 : 0 ≤ x1 ∧ x1 ≤ 3) (h_x2 : 8 ≤ x2 ∧ x2 ≤ 2147483647) : jT xs (d + 2) 278 16 0 [(0, (4, 0)), (1, (0, x1)), (2, (0, x2))] [] jpA_22 0 0 (fun k v hsN => k = 0 ∧ v = (0, 0) ∧ hsN = jpA_20) := by
  refine jT_xaload_n (v := (4, 0)) (pcN := 1) jI_278_0 rfl rfl rfl ?_
  refine jT_xiload_n (v := (0, x1)) (pcN := 2) jI_278_1 rfl rfl rfl ?_
  refine jT_fR [] 16 (y := 238) (pcN := 5) (dC := 1) (bc1 := 0) (bc2 := 0) (c1 := 0) (c2 := 0) (as := [(0, x1)]) (asC := [(0, x1)]) (LN := [(0, (4, 0)), (1, (0, x1)), (2, (0, x2))]) (stN := [(4, 0)]) (hsC := []) (v := (0, 1)) (st2 := [(0, 1), (4, 0)]) (jA_238_318 (d := 0) (by omega)) (by rfl) (by rfl) (by decide +kernel) (by rfl) (by rfl) (by omega) (by omega) (by omega) (by omega) rfl ?_
  refine jT_xifF (t := 19) (pcN := 8) jI_278_5 rfl (by decide +kernel) rfl rfl ?_
  refine jT_xiload_n (v := (0, x2)) (pcN := 9) jI_278_8 rfl rfl rfl ?_
  refine jT_fR [] 16 (y := 188) (pcN := 12) (dC := 1) (bc1 := 0) (bc2 := 0) (c1 := 0) (c2 := 0) (as := [(0, x2)]) (asC := [(0, x2)]) (LN := [(0, (4, 0)), (1, (0, x1)), (2, (0, x2))]) (stN := [(4, 0)]) (hsC := []) (v := (0, 0)) (st2 := [(0, 0), (4, 0)]) (jA_188_63 (d := 0) (by omega)) (by rfl) (by rfl) (by decide +kernel) (by rfl) (by rfl) (by omega) (by omega) (by omega) (by omega) rfl ?_
  refine jT_xifT (pcN := 19) jI_278_12 rfl (by decide +kernel) rfl ?_
  refine jT_xiconst (k := 0) (pcN := 20) jI_278_19 rfl ?_
  refine jT_fB [0, 1, 2, 3, 4, 5, 6, 7, 8, 9, 10, 11, 12, 13, 14, 15] 16 (y := 190) (pcN := 23) (dC := 1) (bc1 := 0) (bc2 := 0) (c1 := 0) (c2 := 0) (as := [(4, 0), (0, 0)]) (asC := [(4, 0), (0, 0)]) (LN := [(0, (4, 0)), (1, (0, x1)), (2, (0, x2))]) (stN := []) (hsC := jpA_22) (hsD := jpA_20) (v := (0, 1)) (st2 := [(0, 1)]) (hs2 := jpA_20) (jA_190_6 (d := 0)) (by rfl) (by rfl) (by decide +kernel) (by rfl) (by rfl) (by omega) (by omega) (by omega) (by omega) rfl (by decide +kernel) ?_
  refine jT_xifF (t := 28) (pcN := 26) jI_278_23 rfl (by decide +kernel) rfl rfl ?_
  refine jT_xiconst (k := 0) (pcN := 27) jI_278_26 rfl ?_
  exact jT_ret rfl (by decide) (by show 16 ≤ 16; decide) (by omega) (by omega) ⟨rfl, rfl, rfl⟩
theorem jA_148_884 {xs : List Int} {d : Nat} {x1 x2 : Int} (h_x1 : 4 ≤ x1 ∧ x1 ≤ 2147483647) (h_x2 : (-2147483648) ≤ x2 ∧ x2 ≤ 2147483647) : jT xs (d + 1) 148 12 0 [(0, (4, 0)), (1, (0, x1)), (2, (0, x2))] [] jpA_6 1 6 (fun k v hsN => k = 1 ∧ v = (0, 0) ∧ hsN = jpA_6 ++ []) := by
  refine jT_xaload_n (v := (4, 0)) (pcN := 1) jI_148_0 rfl rfl rfl ?_
  refine jT_xiload_n (v := (0, x1)) (pcN := 2) jI_148_1 rfl rfl rfl ?_
  refine jT_xiconst (k := 4) (pcN := 3) jI_148_2 rfl ?_
  exact jT_fX [0] 12 (y := 115) (pcN := 6) (dC := 0) (bc1 := 1) (bc2 := 6) (as := [(4, 0), (0, x1), (0, 4)]) (asC := [(4, 0), (0, x1), (0, 4)]) (LN := [(0, (4, 0)), (1, (0, x1)), (2, (0, x2))]) (stN := []) (hsC := [jgh]) (e := 0) (jA_115_405 (d := 0) (by omega)) (by rfl) (by rfl) (by decide +kernel) (by rfl) (by rfl) (by omega) (by omega) (by omega) (by omega) ⟨rfl, ⟨rfl, rfl, rfl⟩⟩
theorem jA_353_885 {xs : List Int} {d : Nat} {x1 x2 : Int} (h_x1 : 4 ≤ x1 ∧ x1 ≤ 2147483647) (h_x2 : (-2147483648) ≤ x2 ∧ x2 ≤ 2147483647) : jT xs (d + 2) 353 13 0 [(0, (4, 0)), (1, (0, x1)), (2, (0, x2)), (3, (4, 1))] [] jpA_15 1 6 (fun k v hsN => k = 0 ∧ v = (0, 1) ∧ hsN = jpA_15 ++ []) := by
  refine jT_xaload_n (v := (4, 1)) (pcN := 1) jI_353_0 rfl rfl rfl ?_
  refine jT_xiconst (k := 0) (pcN := 2) jI_353_1 rfl ?_
  refine jT_xaload_n (v := (4, 0)) (pcN := 3) jI_353_2 rfl rfl rfl ?_
  refine jT_xiload_n (v := (0, x1)) (pcN := 4) jI_353_3 rfl rfl rfl ?_
  refine jT_xiload_n (v := (0, x2)) (pcN := 5) jI_353_4 rfl rfl rfl ?_
  exact jT_fX [0, 2, 3, 4, 5, 6, 7, 8, 9, 10, 11, 12] 13 (y := 148) (pcN := 8) (dC := 1) (bc1 := 1) (bc2 := 6) (as := [(4, 0), (0, x1), (0, x2)]) (asC := [(4, 0), (0, x1), (0, x2)]) (LN := [(0, (4, 0)), (1, (0, x1)), (2, (0, x2)), (3, (4, 1))]) (stN := [(0, 0), (4, 1)]) (hsC := jpA_6) (e := 0) (jA_148_884 (d := 0) (by omega) (by omega)) (by rfl) (by rfl) (by decide +kernel) (by rfl) (by rfl) (by omega) (by omega) (by omega) (by omega) (show _ from ⟨rfl, rfl, rfl⟩)
theorem jA_278_886 {xs : List Int} {d : Nat} {x1 x2 : Int} (h_x1 : 4 ≤ x1 ∧ x1 ≤ 2147483647) (h_x2 : (-2147483648) ≤ x2 ∧ x2 ≤ 2147483647) : jT xs (d + 2) 278 16 0 [(0, (4, 0)), (1, (0, x1)), (2, (0, x2))] [] jpA_22 0 0 (fun k v hsN => k = 0 ∧ v = (0, 0) ∧ hsN = jpA_20) := by
  refine jT_xaload_n (v := (4, 0)) (pcN := 1) jI_278_0 rfl rfl rfl ?_
  refine jT_xiload_n (v := (0, x1)) (pcN := 2) jI_278_1 rfl rfl rfl ?_
  refine jT_fR [] 16 (y := 238) (pcN := 5) (dC := 1) (bc1 := 0) (bc2 := 0) (c1 := 0) (c2 := 0) (as := [(0, x1)]) (asC := [(0, x1)]) (LN := [(0, (4, 0)), (1, (0, x1)), (2, (0, x2))]) (stN := [(4, 0)]) (hsC := []) (v := (0, 0)) (st2 := [(0, 0), (4, 0)]) (jA_238_408 (d := 0) (by omega)) (by rfl) (by rfl) (by decide +kernel) (by rfl) (by rfl) (by omega) (by omega) (by omega) (by omega) rfl ?_
  refine jT_xifT (pcN := 19) jI_278_5 rfl (by decide +kernel) rfl ?_
  refine jT_xiconst (k := 0) (pcN := 20) jI_278_19 rfl ?_
  refine jT_fB [0, 1, 2, 3, 4, 5, 6, 7, 8, 9, 10, 11, 12, 13, 14, 15] 16 (y := 190) (pcN := 23) (dC := 1) (bc1 := 0) (bc2 := 0) (c1 := 0) (c2 := 0) (as := [(4, 0), (0, 0)]) (asC := [(4, 0), (0, 0)]) (LN := [(0, (4, 0)), (1, (0, x1)), (2, (0, x2))]) (stN := []) (hsC := jpA_22) (hsD := jpA_20) (v := (0, 1)) (st2 := [(0, 1)]) (hs2 := jpA_20) (jA_190_6 (d := 0)) (by rfl) (by rfl) (by decide +kernel) (by rfl) (by rfl) (by omega) (by omega) (by omega) (by omega) rfl (by decide +kernel) ?_
  refine jT_xifF (t := 28) (pcN := 26) jI_278_23 rfl (by decide +kernel) rfl rfl ?_
  refine jT_xiconst (k := 0) (pcN := 27) jI_278_26 rfl ?_
  exact jT_ret rfl (by decide) (by show 16 ≤ 16; decide) (by omega) (by omega) ⟨rfl, rfl, rfl⟩
theorem jI_379_2254 : jmI (jm 379) 2254 = (.aload_n 1, 1) := by rfl
theorem jI_379_2255 : jmI (jm 379) 2255 = (.aload_n 0, 1) := by rfl
theorem jI_379_2256 : jmI (jm 379) 2256 = (.iload 5, 2) := by rfl
theorem jI_379_2258 : jmI (jm 379) 2258 = (.iconst 1, 1) := by rfl
theorem jI_379_2259 : jmI (jm 379) 2259 = (.iadd, 1) := by rfl
theorem jI_379_2261 : jmI (jm 379) 2261 = (.aload_n 0, 1) := by rfl
theorem jI_379_2262 : jmI (jm 379) 2262 = (.iload 5, 2) := by rfl
theorem jI_379_2264 : jmI (jm 379) 2264 = (.iconst 2, 1) := by rfl
theorem jI_379_2265 : jmI (jm 379) 2265 = (.iadd, 1) := by rfl
theorem jI_379_2267 : jmI (jm 379) 2267 = (.aload_n 3, 1) := by rfl
theorem jI_379_2271 : jmI (jm 379) 2271 = (.istore 6, 2) := by rfl
theorem jI_379_2273 : jmI (jm 379) 2273 = (.aload_n 2, 1) := by rfl
theorem jI_379_2274 : jmI (jm 379) 2274 = (.aload_n 0, 1) := by rfl
theorem jI_379_2275 : jmI (jm 379) 2275 = (.iload 5, 2) := by rfl
theorem jI_379_2277 : jmI (jm 379) 2277 = (.iconst 1, 1) := by rfl
theorem jI_379_2278 : jmI (jm 379) 2278 = (.iadd, 1) := by rfl
theorem jI_379_2280 : jmI (jm 379) 2280 = (.aload_n 0, 1) := by rfl
theorem jI_379_2281 : jmI (jm 379) 2281 = (.iload 5, 2) := by rfl
theorem jI_379_2283 : jmI (jm 379) 2283 = (.iconst 2, 1) := by rfl
theorem jI_379_2284 : jmI (jm 379) 2284 = (.iadd, 1) := by rfl
theorem jI_379_2289 : jmI (jm 379) 2289 = (.istore 7, 2) := by rfl
theorem jI_379_2291 : jmI (jm 379) 2291 = (.aload_n 2, 1) := by rfl
theorem jI_379_2295 : jmI (jm 379) 2295 = (.iload 6, 2) := by rfl
theorem jI_379_2297 : jmI (jm 379) 2297 = (.if_icmp .eq 5, 3) := by rfl
theorem jI_379_2302 : jmI (jm 379) 2302 = (.iload 6, 2) := by rfl
theorem jI_379_2304 : jmI (jm 379) 2304 = (.ifCond .ne 15, 3) := by rfl
theorem jI_379_2319 : jmI (jm 379) 2319 = (.goto 1421, 3) := by rfl
set_option maxRecDepth 100000 in
theorem jL_29_0 {d : Nat} {x0 x1 x2 x3 x4 : Int} (h_x0 : (-2147483648) ≤ x0 ∧ x0 ≤ 2147483647) (h_x1 : (-2147483648) ≤ x1 ∧ x1 ≤ (-1)) (h_x2 : (-2147483648) ≤ x2 ∧ x2 ≤ 2147483647) (h_x3 : (-2147483648) ≤ x3 ∧ x3 ≤ 2147483647) (h_x4 : (-2147483648) ≤ x4 ∧ x4 ≤ 2147483647) : jT [x0, x1, x2, x3, x4] (d + 3) 379 30 2254 [(5, (0, 0)), (4, (4, 3)), (3, (4, 2)), (2, (4, 1)), (1, (4, 0)), (0, (6, 0))] [] jpA_267 1 6 (fun k v hsN => k = 0 ∧ v = (0, 1)) := by
  refine jT_xaload_n (v := (4, 0)) (pcN := 2255) jI_379_2254 rfl rfl rfl ?_
  refine jT_xaload_n (v := (6, 0)) (pcN := 2256) jI_379_2255 rfl rfl rfl ?_
  refine jT_xiload (v := (0, 0)) (pcN := 2258) jI_379_2256 rfl rfl rfl ?_
  refine jT_xiconst (k := 1) (pcN := 2259) jI_379_2258 rfl ?_
  refine jT_xiadd (x := 0) (y := 1) (z := 1) (pcN := 2260) jI_379_2259 rfl (by decide) rfl ?_
  refine jT_adv 1 (pcN := 2261) (LN := [(5, (0, 0)), (4, (4, 3)), (3, (4, 2)), (2, (4, 1)), (1, (4, 0)), (0, (6, 0))]) (stN := [(0, x1), (4, 0)]) (hsN := jpA_267) (c1 := 0) (s1 := 0) (c2 := 1) (s2 := 6) (by exact rfl) ?_ (by omega) (by omega)
  refine jT_xaload_n (v := (6, 0)) (pcN := 2262) jI_379_2261 rfl rfl rfl ?_
  refine jT_xiload (v := (0, 0)) (pcN := 2264) jI_379_2262 rfl rfl rfl ?_
  refine jT_xiconst (k := 2) (pcN := 2265) jI_379_2264 rfl ?_
  refine jT_xiadd (x := 0) (y := 2) (z := 2) (pcN := 2266) jI_379_2265 rfl (by decide) rfl ?_
  refine jT_adv 1 (pcN := 2267) (LN := [(5, (0, 0)), (4, (4, 3)), (3, (4, 2)), (2, (4, 1)), (1, (4, 0)), (0, (6, 0))]) (stN := [(0, x2), (0, x1), (4, 0)]) (hsN := jpA_267) (c1 := 0) (s1 := 0) (c2 := 1) (s2 := 6) (by exact rfl) ?_ (by omega) (by omega)
  refine jT_xaload_n (v := (4, 2)) (pcN := 2268) jI_379_2267 rfl rfl rfl ?_
  refine jT_fR [0, 2, 4, 5, 6, 7, 8, 9, 10, 11, 12, 13, 14] 30 (y := 353) (pcN := 2271) (dC := 2) (bc1 := 1) (bc2 := 6) (c1 := 0) (c2 := 0) (as := [(4, 0), (0, x1), (0, x2), (4, 2)]) (asC := [(4, 0), (0, x1), (0, x2), (4, 1)]) (LN := [(5, (0, 0)), (4, (4, 3)), (3, (4, 2)), (2, (4, 1)), (1, (4, 0)), (0, (6, 0))]) (stN := []) (hsC := jpA_15) (v := (0, 1)) (st2 := [(0, 1)]) (jA_353_860 (d := 0) (by omega) (by omega)) (by rfl) (by rfl) (by decide +kernel) (by rfl) (by rfl) (by omega) (by omega) (by omega) (by omega) rfl ?_
  refine jT_xistore (v := (0, 1)) (LN := [(6, (0, 1)), (5, (0, 0)), (4, (4, 3)), (3, (4, 2)), (2, (4, 1)), (1, (4, 0)), (0, (6, 0))]) (pcN := 2273) jI_379_2271 rfl rfl rfl rfl ?_
  refine jT_xaload_n (v := (4, 1)) (pcN := 2274) jI_379_2273 rfl rfl rfl ?_
  refine jT_xaload_n (v := (6, 0)) (pcN := 2275) jI_379_2274 rfl rfl rfl ?_
  refine jT_xiload (v := (0, 0)) (pcN := 2277) jI_379_2275 rfl rfl rfl ?_
  refine jT_xiconst (k := 1) (pcN := 2278) jI_379_2277 rfl ?_
  refine jT_xiadd (x := 0) (y := 1) (z := 1) (pcN := 2279) jI_379_2278 rfl (by decide) rfl ?_
  refine jT_adv 1 (pcN := 2280) (LN := [(6, (0, 1)), (5, (0, 0)), (4, (4, 3)), (3, (4, 2)), (2, (4, 1)), (1, (4, 0)), (0, (6, 0))]) (stN := [(0, x1), (4, 1)]) (hsN := jpA_267) (c1 := 0) (s1 := 0) (c2 := 0) (s2 := 0) (by exact rfl) ?_ (by omega) (by omega)
  refine jT_xaload_n (v := (6, 0)) (pcN := 2281) jI_379_2280 rfl rfl rfl ?_
  refine jT_xiload (v := (0, 0)) (pcN := 2283) jI_379_2281 rfl rfl rfl ?_
  refine jT_xiconst (k := 2) (pcN := 2284) jI_379_2283 rfl ?_
  refine jT_xiadd (x := 0) (y := 2) (z := 2) (pcN := 2285) jI_379_2284 rfl (by decide) rfl ?_
  refine jT_adv 1 (pcN := 2286) (LN := [(6, (0, 1)), (5, (0, 0)), (4, (4, 3)), (3, (4, 2)), (2, (4, 1)), (1, (4, 0)), (0, (6, 0))]) (stN := [(0, x2), (0, x1), (4, 1)]) (hsN := jpA_267) (c1 := 0) (s1 := 0) (c2 := 0) (s2 := 0) (by exact rfl) ?_ (by omega) (by omega)
  refine jT_fB [1, 15, 16, 17, 18, 19, 20, 21, 22, 23, 24, 25, 26, 27, 28, 29] 30 (y := 278) (pcN := 2289) (dC := 2) (bc1 := 0) (bc2 := 0) (c1 := 0) (c2 := 0) (as := [(4, 1), (0, x1), (0, x2)]) (asC := [(4, 0), (0, x1), (0, x2)]) (LN := [(6, (0, 1)), (5, (0, 0)), (4, (4, 3)), (3, (4, 2)), (2, (4, 1)), (1, (4, 0)), (0, (6, 0))]) (stN := []) (hsC := jpA_22) (hsD := jpA_20) (v := (0, 0)) (st2 := [(0, 0)]) (hs2 := jpA_306) (jA_278_861 (d := 0) (by omega) (by omega)) (by rfl) (by rfl) (by decide +kernel) (by rfl) (by rfl) (by omega) (by omega) (by omega) (by omega) rfl (by decide +kernel) ?_
  refine jT_xistore (v := (0, 0)) (LN := [(7, (0, 0)), (6, (0, 1)), (5, (0, 0)), (4, (4, 3)), (3, (4, 2)), (2, (4, 1)), (1, (4, 0)), (0, (6, 0))]) (pcN := 2291) jI_379_2289 rfl rfl rfl rfl ?_
  refine jT_xaload_n (v := (4, 1)) (pcN := 2292) jI_379_2291 rfl rfl rfl ?_
  refine jT_fR [1, 15, 16, 17, 18, 19, 20, 21, 22, 23, 24, 25, 26, 27, 28, 29] 30 (y := 186) (pcN := 2295) (dC := 0) (bc1 := 0) (bc2 := 0) (c1 := 0) (c2 := 0) (as := [(4, 1)]) (asC := [(4, 0)]) (LN := [(7, (0, 0)), (6, (0, 1)), (5, (0, 0)), (4, (4, 3)), (3, (4, 2)), (2, (4, 1)), (1, (4, 0)), (0, (6, 0))]) (stN := []) (hsC := jpA_20) (v := (0, 1)) (st2 := [(0, 1)]) (jA_186_8 (d := 0)) (by rfl) (by rfl) (by decide +kernel) (by rfl) (by rfl) (by omega) (by omega) (by omega) (by omega) rfl ?_
  refine jT_xiload (v := (0, 1)) (pcN := 2297) jI_379_2295 rfl rfl rfl ?_
  refine jT_xicT (pcN := 2302) jI_379_2297 rfl (by decide +kernel) rfl ?_
  refine jT_xiload (v := (0, 1)) (pcN := 2304) jI_379_2302 rfl rfl rfl ?_
  refine jT_xifT (pcN := 2319) jI_379_2304 rfl (by decide +kernel) rfl ?_
  refine jT_xgoto (pcN := 3740) jI_379_2319 rfl ?_
  refine jT_xiinc (x := 0) (z := 5) (LN := [(5, (0, 5)), (7, (0, 0)), (6, (0, 1)), (4, (4, 3)), (3, (4, 2)), (2, (4, 1)), (1, (4, 0)), (0, (6, 0))]) (pcN := 3743) jI_379_3740 rfl rfl (by decide) rfl rfl ?_
  refine jT_xgoto (pcN := 28) jI_379_3743 rfl ?_
  refine jT_xiload (v := (0, 5)) (pcN := 30) jI_379_28 rfl rfl rfl ?_
  refine jT_xaload_n (v := (6, 0)) (pcN := 31) jI_379_30 rfl rfl rfl ?_
  refine jT_adv 1 (pcN := 32) (LN := [(5, (0, 5)), (7, (0, 0)), (6, (0, 1)), (4, (4, 3)), (3, (4, 2)), (2, (4, 1)), (1, (4, 0)), (0, (6, 0))]) (stN := [(0, 5), (0, 5)]) (hsN := jpA_306) (c1 := 0) (s1 := 0) (c2 := 0) (s2 := 0) (by exact rfl) ?_ (by omega) (by omega)
  refine jT_xiconst (k := 5) (pcN := 33) jI_379_32 rfl ?_
  refine jT_xisub (x := 5) (y := 5) (z := 0) (pcN := 34) jI_379_33 rfl (by decide) rfl ?_
  refine jT_xicT (pcN := 3746) jI_379_34 rfl (by decide +kernel) rfl ?_
  refine jT_xiconst (k := 1) (pcN := 3747) jI_379_3746 rfl ?_
  exact jT_ret rfl (by decide) (by show 30 ≤ 30; decide) (by omega) (by omega) ⟨rfl, rfl⟩
set_option maxRecDepth 100000 in
theorem jL_29_1 {d : Nat} {x0 x1 x2 x3 x4 : Int} (h_x0 : (-2147483648) ≤ x0 ∧ x0 ≤ 2147483647) (h_x1 : 0 ≤ x1 ∧ x1 ≤ 3) (h_x2 : (-2147483648) ≤ x2 ∧ x2 ≤ (-1)) (h_x3 : (-2147483648) ≤ x3 ∧ x3 ≤ 2147483647) (h_x4 : (-2147483648) ≤ x4 ∧ x4 ≤ 2147483647) : jT [x0, x1, x2, x3, x4] (d + 3) 379 30 2254 [(5, (0, 0)), (4, (4, 3)), (3, (4, 2)), (2, (4, 1)), (1, (4, 0)), (0, (6, 0))] [] jpA_267 1 6 (fun k v hsN => k = 0 ∧ v = (0, 1)) := by
  refine jT_xaload_n (v := (4, 0)) (pcN := 2255) jI_379_2254 rfl rfl rfl ?_
  refine jT_xaload_n (v := (6, 0)) (pcN := 2256) jI_379_2255 rfl rfl rfl ?_
  refine jT_xiload (v := (0, 0)) (pcN := 2258) jI_379_2256 rfl rfl rfl ?_
  refine jT_xiconst (k := 1) (pcN := 2259) jI_379_2258 rfl ?_
  refine jT_xiadd (x := 0) (y := 1) (z := 1) (pcN := 2260) jI_379_2259 rfl (by decide) rfl ?_
  refine jT_adv 1 (pcN := 2261) (LN := [(5, (0, 0)), (4, (4, 3)), (3, (4, 2)), (2, (4, 1)), (1, (4, 0)), (0, (6, 0))]) (stN := [(0, x1), (4, 0)]) (hsN := jpA_267) (c1 := 0) (s1 := 0) (c2 := 1) (s2 := 6) (by exact rfl) ?_ (by omega) (by omega)
  refine jT_xaload_n (v := (6, 0)) (pcN := 2262) jI_379_2261 rfl rfl rfl ?_
  refine jT_xiload (v := (0, 0)) (pcN := 2264) jI_379_2262 rfl rfl rfl ?_
  refine jT_xiconst (k := 2) (pcN := 2265) jI_379_2264 rfl ?_
  refine jT_xiadd (x := 0) (y := 2) (z := 2) (pcN := 2266) jI_379_2265 rfl (by decide) rfl ?_
  refine jT_adv 1 (pcN := 2267) (LN := [(5, (0, 0)), (4, (4, 3)), (3, (4, 2)), (2, (4, 1)), (1, (4, 0)), (0, (6, 0))]) (stN := [(0, x2), (0, x1), (4, 0)]) (hsN := jpA_267) (c1 := 0) (s1 := 0) (c2 := 1) (s2 := 6) (by exact rfl) ?_ (by omega) (by omega)
  refine jT_xaload_n (v := (4, 2)) (pcN := 2268) jI_379_2267 rfl rfl rfl ?_
  refine jT_fR [0, 2, 4, 5, 6, 7, 8, 9, 10, 11, 12, 13, 14] 30 (y := 353) (pcN := 2271) (dC := 2) (bc1 := 1) (bc2 := 6) (c1 := 0) (c2 := 0) (as := [(4, 0), (0, x1), (0, x2), (4, 2)]) (asC := [(4, 0), (0, x1), (0, x2), (4, 1)]) (LN := [(5, (0, 0)), (4, (4, 3)), (3, (4, 2)), (2, (4, 1)), (1, (4, 0)), (0, (6, 0))]) (stN := []) (hsC := jpA_15) (v := (0, 1)) (st2 := [(0, 1)]) (jA_353_863 (d := 0) (by omega) (by omega)) (by rfl) (by rfl) (by decide +kernel) (by rfl) (by rfl) (by omega) (by omega) (by omega) (by omega) rfl ?_
  refine jT_xistore (v := (0, 1)) (LN := [(6, (0, 1)), (5, (0, 0)), (4, (4, 3)), (3, (4, 2)), (2, (4, 1)), (1, (4, 0)), (0, (6, 0))]) (pcN := 2273) jI_379_2271 rfl rfl rfl rfl ?_
  refine jT_xaload_n (v := (4, 1)) (pcN := 2274) jI_379_2273 rfl rfl rfl ?_
  refine jT_xaload_n (v := (6, 0)) (pcN := 2275) jI_379_2274 rfl rfl rfl ?_
  refine jT_xiload (v := (0, 0)) (pcN := 2277) jI_379_2275 rfl rfl rfl ?_
  refine jT_xiconst (k := 1) (pcN := 2278) jI_379_2277 rfl ?_
  refine jT_xiadd (x := 0) (y := 1) (z := 1) (pcN := 2279) jI_379_2278 rfl (by decide) rfl ?_
  refine jT_adv 1 (pcN := 2280) (LN := [(6, (0, 1)), (5, (0, 0)), (4, (4, 3)), (3, (4, 2)), (2, (4, 1)), (1, (4, 0)), (0, (6, 0))]) (stN := [(0, x1), (4, 1)]) (hsN := jpA_267) (c1 := 0) (s1 := 0) (c2 := 0) (s2 := 0) (by exact rfl) ?_ (by omega) (by omega)
  refine jT_xaload_n (v := (6, 0)) (pcN := 2281) jI_379_2280 rfl rfl rfl ?_
  refine jT_xiload (v := (0, 0)) (pcN := 2283) jI_379_2281 rfl rfl rfl ?_
  refine jT_xiconst (k := 2) (pcN := 2284) jI_379_2283 rfl ?_
  refine jT_xiadd (x := 0) (y := 2) (z := 2) (pcN := 2285) jI_379_2284 rfl (by decide) rfl ?_
  refine jT_adv 1 (pcN := 2286) (LN := [(6, (0, 1)), (5, (0, 0)), (4, (4, 3)), (3, (4, 2)), (2, (4, 1)), (1, (4, 0)), (0, (6, 0))]) (stN := [(0, x2), (0, x1), (4, 1)]) (hsN := jpA_267) (c1 := 0) (s1 := 0) (c2 := 0) (s2 := 0) (by exact rfl) ?_ (by omega) (by omega)
  refine jT_fB [1, 15, 16, 17, 18, 19, 20, 21, 22, 23, 24, 25, 26, 27, 28, 29] 30 (y := 278) (pcN := 2289) (dC := 2) (bc1 := 0) (bc2 := 0) (c1 := 0) (c2 := 0) (as := [(4, 1), (0, x1), (0, x2)]) (asC := [(4, 0), (0, x1), (0, x2)]) (LN := [(6, (0, 1)), (5, (0, 0)), (4, (4, 3)), (3, (4, 2)), (2, (4, 1)), (1, (4, 0)), (0, (6, 0))]) (stN := []) (hsC := jpA_22) (hsD := jpA_20) (v := (0, 0)) (st2 := [(0, 0)]) (hs2 := jpA_306) (jA_278_864 (d := 0) (by omega) (by omega)) (by rfl) (by rfl) (by decide +kernel) (by rfl) (by rfl) (by omega) (by omega) (by omega) (by omega) rfl (by decide +kernel) ?_
  refine jT_xistore (v := (0, 0)) (LN := [(7, (0, 0)), (6, (0, 1)), (5, (0, 0)), (4, (4, 3)), (3, (4, 2)), (2, (4, 1)), (1, (4, 0)), (0, (6, 0))]) (pcN := 2291) jI_379_2289 rfl rfl rfl rfl ?_
  refine jT_xaload_n (v := (4, 1)) (pcN := 2292) jI_379_2291 rfl rfl rfl ?_
  refine jT_fR [1, 15, 16, 17, 18, 19, 20, 21, 22, 23, 24, 25, 26, 27, 28, 29] 30 (y := 186) (pcN := 2295) (dC := 0) (bc1 := 0) (bc2 := 0) (c1 := 0) (c2 := 0) (as := [(4, 1)]) (asC := [(4, 0)]) (LN := [(7, (0, 0)), (6, (0, 1)), (5, (0, 0)), (4, (4, 3)), (3, (4, 2)), (2, (4, 1)), (1, (4, 0)), (0, (6, 0))]) (stN := []) (hsC := jpA_20) (v := (0, 1)) (st2 := [(0, 1)]) (jA_186_8 (d := 0)) (by rfl) (by rfl) (by decide +kernel) (by rfl) (by rfl) (by omega) (by omega) (by omega) (by omega) rfl ?_
  refine jT_xiload (v := (0, 1)) (pcN := 2297) jI_379_2295 rfl rfl rfl ?_
  refine jT_xicT (pcN := 2302) jI_379_2297 rfl (by decide +kernel) rfl ?_
  refine jT_xiload (v := (0, 1)) (pcN := 2304) jI_379_2302 rfl rfl rfl ?_
  refine jT_xifT (pcN := 2319) jI_379_2304 rfl (by decide +kernel) rfl ?_
  refine jT_xgoto (pcN := 3740) jI_379_2319 rfl ?_
  refine jT_xiinc (x := 0) (z := 5) (LN := [(5, (0, 5)), (7, (0, 0)), (6, (0, 1)), (4, (4, 3)), (3, (4, 2)), (2, (4, 1)), (1, (4, 0)), (0, (6, 0))]) (pcN := 3743) jI_379_3740 rfl rfl (by decide) rfl rfl ?_
  refine jT_xgoto (pcN := 28) jI_379_3743 rfl ?_
  refine jT_xiload (v := (0, 5)) (pcN := 30) jI_379_28 rfl rfl rfl ?_
  refine jT_xaload_n (v := (6, 0)) (pcN := 31) jI_379_30 rfl rfl rfl ?_
  refine jT_adv 1 (pcN := 32) (LN := [(5, (0, 5)), (7, (0, 0)), (6, (0, 1)), (4, (4, 3)), (3, (4, 2)), (2, (4, 1)), (1, (4, 0)), (0, (6, 0))]) (stN := [(0, 5), (0, 5)]) (hsN := jpA_306) (c1 := 0) (s1 := 0) (c2 := 0) (s2 := 0) (by exact rfl) ?_ (by omega) (by omega)
  refine jT_xiconst (k := 5) (pcN := 33) jI_379_32 rfl ?_
  refine jT_xisub (x := 5) (y := 5) (z := 0) (pcN := 34) jI_379_33 rfl (by decide) rfl ?_
  refine jT_xicT (pcN := 3746) jI_379_34 rfl (by decide +kernel) rfl ?_
  refine jT_xiconst (k := 1) (pcN := 3747) jI_379_3746 rfl ?_
  exact jT_ret rfl (by decide) (by show 30 ≤ 30; decide) (by omega) (by omega) ⟨rfl, rfl⟩
def jpA_3558 : List JC := [jzA_265, jzA_266, (101, [], [0]), jgh, (8, [(4, 30), (4, 31)], []), jgh, jgh, jgh, jgh, jgh, jgh, (101, [], [0, 0, 0, 0, 0, 0]), jgh, jgh, jzA_721, (100, [], jS0), jgh, jgh, jgh, jgh, (130, [], [37, 38, 39, 40, 41, 42]), (101, [], [0, 0, 0, 0, 0, 0]), jgh, jgh, jgh, jgh, jgh, jgh, jgh, jgh, jgh, (101, [], [0, 0, 0, 0, 0, 0]), jzA_324, (117, [], [44, 45, 46, 47]), jgh, jgh, jgh, (100, [], (jenc (jlg 0))), jgh, jgh, jgh, jgh, jgh, (4, [(4, 48), (1, 1)], []), (7, [(4, 49), (4, (-1)), (4, (-1))], []), jgh, jgh, jgh, (101, [], [0, 0, 0, 0, 0, 0]), (114, [], [43])]
def jpA_3559 : List JC := [jzA_265, jzA_266, (101, [], [0]), jgh, (8, [(4, 30), (4, 31)], []), jgh, jgh, jgh, jgh, jgh, jgh, (101, [], [0, 0, 0, 0, 0, 0]), jgh, jgh, jzA_721, (100, [], jS0), jgh, jgh, jgh, jgh, (130, [], [37, 38, 39, 40, 41, 42]), (101, [], [0, 0, 0, 0, 0, 0]), jgh, jgh, jgh, jgh, jgh, jgh, jgh, jgh, jgh, (101, [], [0, 0, 0, 0, 0, 0]), jzA_324, (117, [], [44, 45, 46, 47]), jgh, jgh, jgh, (100, [], (jenc (jlg 0))), jgh, jgh, jgh, jgh, jgh, (4, [(4, 48), (1, 1)], []), (7, [(4, 49), (4, (-1)), (4, (-1))], []), jgh, jgh, jgh, (101, [], [0, 0, 0, 0, 0, 0]), (114, [], [43]), (101, [], [0, 0, 0, 0, 0, 0]), (4, [(4, 50), (1, 1)], [])]
def jpA_3560 : List JC := [jzA_265, jzA_266, (101, [], [0]), jgh, (8, [(4, 30), (4, 31)], []), jgh, jgh, jgh, jgh, jgh, jgh, (101, [], [0, 0, 0, 0, 0, 0]), jgh, jgh, jzA_721, (100, [], jS0), jgh, jgh, jgh, jgh, (130, [], [37, 38, 39, 40, 41, 42]), (101, [], [0, 0, 0, 0, 0, 0]), jgh, jgh, jgh, jgh, jgh, jgh, jgh, jgh, jgh, (101, [], [0, 0, 0, 0, 0, 0]), jzA_324, (117, [], [44, 45, 46, 47]), jgh, jgh, jgh, (100, [], (jenc (jlg 0))), jgh, jgh, jgh, jgh, jgh, (4, [(4, 48), (1, 1)], []), (7, [(4, 49), (4, (-1)), (4, (-1))], []), jgh, jgh, jgh, (101, [], [0, 0, 0, 0, 0, 0]), (114, [], [43]), (101, [], [0, 0, 0, 0, 0, 0]), (4, [(4, 50), (1, 1)], []), (101, [], [0, 0, 0, 0, 0, 0]), (101, [], [(-1), 0, 0, 0, 0, 0]), (100, [], (jenc 0)), (100, [], (jenc (-1))), (100, [], (jenc ((-1) * (jlg 0)))), (101, [], [0, 0, 0, 0, 0, 0])]
theorem jI_379_2307 : jmI (jm 379) 2307 = (.aload_n 3, 1) := by rfl
theorem jI_379_2308 : jmI (jm 379) 2308 = (.iconst 0, 1) := by rfl
theorem jI_379_2309 : jmI (jm 379) 2309 = (.laload, 1) := by rfl
theorem jI_379_2310 : jmI (jm 379) 2310 = (.iload 7, 2) := by rfl
theorem jI_379_2312 : jmI (jm 379) 2312 = (.i2l, 1) := by rfl
theorem jI_379_2314 : jmI (jm 379) 2314 = (.ifCond .eq 5, 3) := by rfl
set_option maxRecDepth 100000 in
theorem jL_29_2 {d : Nat} {x0 x1 x2 x3 x4 : Int} (h_x0 : (-2147483648) ≤ x0 ∧ x0 ≤ 2147483647) (h_x1 : 0 ≤ x1 ∧ x1 ≤ 0) (h_x2 : 0 ≤ x2 ∧ x2 ≤ 7) (h_x3 : (-2147483648) ≤ x3 ∧ x3 ≤ 2147483647) (h_x4 : (-2147483648) ≤ x4 ∧ x4 ≤ 2147483647) : jT [x0, x1, x2, x3, x4] (d + 8) 379 50 2254 [(5, (0, 0)), (4, (4, 3)), (3, (4, 2)), (2, (4, 1)), (1, (4, 0)), (0, (6, 0))] [] jpA_3558 8 194 (fun k v hsN => k = 0 ∧ v = (0, 1)) := by
  refine jT_xaload_n (v := (4, 0)) (pcN := 2255) jI_379_2254 rfl rfl rfl ?_
  refine jT_xaload_n (v := (6, 0)) (pcN := 2256) jI_379_2255 rfl rfl rfl ?_
  refine jT_xiload (v := (0, 0)) (pcN := 2258) jI_379_2256 rfl rfl rfl ?_
  refine jT_xiconst (k := 1) (pcN := 2259) jI_379_2258 rfl ?_
  refine jT_xiadd (x := 0) (y := 1) (z := 1) (pcN := 2260) jI_379_2259 rfl (by decide) rfl ?_
  refine jT_adv 1 (pcN := 2261) (LN := [(5, (0, 0)), (4, (4, 3)), (3, (4, 2)), (2, (4, 1)), (1, (4, 0)), (0, (6, 0))]) (stN := [(0, x1), (4, 0)]) (hsN := jpA_3558) (c1 := 0) (s1 := 0) (c2 := 8) (s2 := 194) (by exact rfl) ?_ (by omega) (by omega)
  refine jT_eq (LN := [(5, (0, 0)), (4, (4, 3)), (3, (4, 2)), (2, (4, 1)), (1, (4, 0)), (0, (6, 0))]) (stN := [(0, 0), (4, 0)]) (hsN := [jzA_265, jzA_266, (101, [], [0]), jgh, (8, [(4, 30), (4, 31)], []), jgh, jgh, jgh, jgh, jgh, jgh, (101, [], [0, 0, 0, 0, 0, 0]), jgh, jgh, jzA_721, (100, [], jS0), jgh, jgh, jgh, jgh, (130, [], [37, 38, 39, 40, 41, 42]), (101, [], [0, 0, 0, 0, 0, 0]), jgh, jgh, jgh, jgh, jgh, jgh, jgh, jgh, jgh, (101, [], [0, 0, 0, 0, 0, 0]), jzA_324, (117, [], [44, 45, 46, 47]), jgh, jgh, jgh, (100, [], (jenc (jlg 0))), jgh, jgh, jgh, jgh, jgh, (4, [(4, 48), (1, 1)], []), (7, [(4, 49), (4, (-1)), (4, (-1))], []), jgh, jgh, jgh, (101, [], [0, 0, 0, 0, 0, 0]), (114, [], [43])]) (rfl) (by simp only [List.cons.injEq, Prod.mk.injEq, and_true, true_and] <;> ((try unfold jw); (try unfold jwl); omega)) (rfl) ?_
  refine jT_xaload_n (v := (6, 0)) (pcN := 2262) jI_379_2261 rfl rfl rfl ?_
  refine jT_xiload (v := (0, 0)) (pcN := 2264) jI_379_2262 rfl rfl rfl ?_
  refine jT_xiconst (k := 2) (pcN := 2265) jI_379_2264 rfl ?_
  refine jT_xiadd (x := 0) (y := 2) (z := 2) (pcN := 2266) jI_379_2265 rfl (by decide) rfl ?_
  refine jT_adv 1 (pcN := 2267) (LN := [(5, (0, 0)), (4, (4, 3)), (3, (4, 2)), (2, (4, 1)), (1, (4, 0)), (0, (6, 0))]) (stN := [(0, x2), (0, 0), (4, 0)]) (hsN := jpA_3558) (c1 := 0) (s1 := 0) (c2 := 8) (s2 := 194) (by exact rfl) ?_ (by omega) (by omega)
  refine jT_xaload_n (v := (4, 2)) (pcN := 2268) jI_379_2267 rfl rfl rfl ?_
  refine jT_fA [0, 2, 4, 5, 6, 7, 8, 9, 10, 11, 12, 13, 14, 30, 31, 32, 33, 34, 35, 36, 43, 44, 45, 46, 47, 48, 49] 50 (y := 353) (pcN := 2271) (dC := 6) (bc1 := 2) (bc2 := 8) (c1 := 6) (c2 := 186) (as := [(4, 0), (0, 0), (0, x2), (4, 2)]) (asC := [(4, 0), (0, 0), (0, x2), (4, 1)]) (LN := [(5, (0, 0)), (4, (4, 3)), (3, (4, 2)), (2, (4, 1)), (1, (4, 0)), (0, (6, 0))]) (stN := []) (hsC := jpA_3497) (ex := [(101, [], [0, 0, 0, 0, 0, 0]), (4, [(4, 27), (1, 1)], [])]) (v := (0, 0)) (st2 := [(0, 0)]) (hs2 := jpA_3559) (jA_353_866 (d := 0) (by omega)) (by rfl) (by rfl) (by decide +kernel) (by rfl) (by rfl) (by omega) (by omega) (by omega) (by omega) rfl (by decide +kernel) ?_
  refine jT_xistore (v := (0, 0)) (LN := [(6, (0, 0)), (5, (0, 0)), (4, (4, 3)), (3, (4, 2)), (2, (4, 1)), (1, (4, 0)), (0, (6, 0))]) (pcN := 2273) jI_379_2271 rfl rfl rfl rfl ?_
  refine jT_xaload_n (v := (4, 1)) (pcN := 2274) jI_379_2273 rfl rfl rfl ?_
  refine jT_xaload_n (v := (6, 0)) (pcN := 2275) jI_379_2274 rfl rfl rfl ?_
  refine jT_xiload (v := (0, 0)) (pcN := 2277) jI_379_2275 rfl rfl rfl ?_
  refine jT_xiconst (k := 1) (pcN := 2278) jI_379_2277 rfl ?_
  refine jT_xiadd (x := 0) (y := 1) (z := 1) (pcN := 2279) jI_379_2278 rfl (by decide) rfl ?_
  refine jT_adv 1 (pcN := 2280) (LN := [(6, (0, 0)), (5, (0, 0)), (4, (4, 3)), (3, (4, 2)), (2, (4, 1)), (1, (4, 0)), (0, (6, 0))]) (stN := [(0, x1), (4, 1)]) (hsN := jpA_3559) (c1 := 0) (s1 := 0) (c2 := 6) (s2 := 186) (by exact rfl) ?_ (by omega) (by omega)
  refine jT_eq (LN := [(6, (0, 0)), (5, (0, 0)), (4, (4, 3)), (3, (4, 2)), (2, (4, 1)), (1, (4, 0)), (0, (6, 0))]) (stN := [(0, 0), (4, 1)]) (hsN := [jzA_265, jzA_266, (101, [], [0]), jgh, (8, [(4, 30), (4, 31)], []), jgh, jgh, jgh, jgh, jgh, jgh, (101, [], [0, 0, 0, 0, 0, 0]), jgh, jgh, jzA_721, (100, [], jS0), jgh, jgh, jgh, jgh, (130, [], [37, 38, 39, 40, 41, 42]), (101, [], [0, 0, 0, 0, 0, 0]), jgh, jgh, jgh, jgh, jgh, jgh, jgh, jgh, jgh, (101, [], [0, 0, 0, 0, 0, 0]), jzA_324, (117, [], [44, 45, 46, 47]), jgh, jgh, jgh, (100, [], (jenc (jlg 0))), jgh, jgh, jgh, jgh, jgh, (4, [(4, 48), (1, 1)], []), (7, [(4, 49), (4, (-1)), (4, (-1))], []), jgh, jgh, jgh, (101, [], [0, 0, 0, 0, 0, 0]), (114, [], [43]), (101, [], [0, 0, 0, 0, 0, 0]), (4, [(4, 50), (1, 1)], [])]) (rfl) (by simp only [List.cons.injEq, Prod.mk.injEq, and_true, true_and] <;> ((try unfold jw); (try unfold jwl); omega)) (rfl) ?_
  refine jT_xaload_n (v := (6, 0)) (pcN := 2281) jI_379_2280 rfl rfl rfl ?_
  refine jT_xiload (v := (0, 0)) (pcN := 2283) jI_379_2281 rfl rfl rfl ?_
  refine jT_xiconst (k := 2) (pcN := 2284) jI_379_2283 rfl ?_
  refine jT_xiadd (x := 0) (y := 2) (z := 2) (pcN := 2285) jI_379_2284 rfl (by decide) rfl ?_
  refine jT_adv 1 (pcN := 2286) (LN := [(6, (0, 0)), (5, (0, 0)), (4, (4, 3)), (3, (4, 2)), (2, (4, 1)), (1, (4, 0)), (0, (6, 0))]) (stN := [(0, x2), (0, 0), (4, 1)]) (hsN := jpA_3559) (c1 := 0) (s1 := 0) (c2 := 6) (s2 := 186) (by exact rfl) ?_ (by omega) (by omega)
  refine jT_fA [1, 15, 16, 17, 18, 19, 20, 21, 22, 23, 24, 25, 26, 27, 28, 29, 37, 38, 39, 40, 41, 42] 52 (y := 278) (pcN := 2289) (dC := 7) (bc1 := 6) (bc2 := 186) (c1 := 0) (c2 := 0) (as := [(4, 1), (0, 0), (0, x2)]) (asC := [(4, 0), (0, 0), (0, x2)]) (LN := [(6, (0, 0)), (5, (0, 0)), (4, (4, 3)), (3, (4, 2)), (2, (4, 1)), (1, (4, 0)), (0, (6, 0))]) (stN := []) (hsC := jpA_1695) (ex := jpA_3524) (v := (0, 0)) (st2 := [(0, 0)]) (hs2 := jpA_3560) (jA_278_868 (d := 0) (by omega)) (by rfl) (by rfl) (by decide +kernel) (by rfl) (by rfl) (by omega) (by omega) (by omega) (by omega) rfl (by decide +kernel) ?_
  refine jT_xistore (v := (0, 0)) (LN := [(7, (0, 0)), (6, (0, 0)), (5, (0, 0)), (4, (4, 3)), (3, (4, 2)), (2, (4, 1)), (1, (4, 0)), (0, (6, 0))]) (pcN := 2291) jI_379_2289 rfl rfl rfl rfl ?_
  refine jT_xaload_n (v := (4, 1)) (pcN := 2292) jI_379_2291 rfl rfl rfl ?_
  refine jT_fR [1, 15, 16, 17, 18, 19, 20, 21, 22, 23, 24, 25, 26, 27, 28, 29] 58 (y := 186) (pcN := 2295) (dC := 0) (bc1 := 0) (bc2 := 0) (c1 := 0) (c2 := 0) (as := [(4, 1)]) (asC := [(4, 0)]) (LN := [(7, (0, 0)), (6, (0, 0)), (5, (0, 0)), (4, (4, 3)), (3, (4, 2)), (2, (4, 1)), (1, (4, 0)), (0, (6, 0))]) (stN := []) (hsC := jpA_22) (v := (0, 0)) (st2 := [(0, 0)]) (jA_186_726 (d := 0)) (by rfl) (by rfl) (by decide +kernel) (by rfl) (by rfl) (by omega) (by omega) (by omega) (by omega) rfl ?_
  refine jT_xiload (v := (0, 0)) (pcN := 2297) jI_379_2295 rfl rfl rfl ?_
  refine jT_xicT (pcN := 2302) jI_379_2297 rfl (by decide +kernel) rfl ?_
  refine jT_xiload (v := (0, 0)) (pcN := 2304) jI_379_2302 rfl rfl rfl ?_
  refine jT_xifF (t := 2319) (pcN := 2307) jI_379_2304 rfl (by decide +kernel) rfl rfl ?_
  refine jT_xaload_n (v := (4, 2)) (pcN := 2308) jI_379_2307 rfl rfl rfl ?_
  refine jT_xiconst (k := 0) (pcN := 2309) jI_379_2308 rfl ?_
  refine jT_lald (x := 0) (a := 2) (j := 0) (fs := []) (X := [0]) jI_379_2309 rfl rfl rfl rfl ?_
  refine jT_eq (LN := [(7, (0, 0)), (6, (0, 0)), (5, (0, 0)), (4, (4, 3)), (3, (4, 2)), (2, (4, 1)), (1, (4, 0)), (0, (6, 0))]) (stN := [(1, 0)]) (hsN := jpA_3560) rfl rfl rfl ?_
  refine jT_xiload (v := (0, 0)) (pcN := 2312) jI_379_2310 rfl rfl rfl ?_
  refine jT_xi2l (x := 0) (z := 0) (pcN := 2313) jI_379_2312 rfl (by decide +kernel) rfl ?_
  refine jT_lcmp (a := 0) (b := 0) (z := 0) (by rfl) (by rfl) (by decide +kernel) (by decide +kernel) (by decide) ?_
  refine jT_xifT (pcN := 2319) jI_379_2314 rfl (by decide +kernel) rfl ?_
  refine jT_xgoto (pcN := 3740) jI_379_2319 rfl ?_
  refine jT_xiinc (x := 0) (z := 5) (LN := [(5, (0, 5)), (7, (0, 0)), (6, (0, 0)), (4, (4, 3)), (3, (4, 2)), (2, (4, 1)), (1, (4, 0)), (0, (6, 0))]) (pcN := 3743) jI_379_3740 rfl rfl (by decide) rfl rfl ?_
  refine jT_xgoto (pcN := 28) jI_379_3743 rfl ?_
  refine jT_xiload (v := (0, 5)) (pcN := 30) jI_379_28 rfl rfl rfl ?_
  refine jT_xaload_n (v := (6, 0)) (pcN := 31) jI_379_30 rfl rfl rfl ?_
  refine jT_adv 1 (pcN := 32) (LN := [(5, (0, 5)), (7, (0, 0)), (6, (0, 0)), (4, (4, 3)), (3, (4, 2)), (2, (4, 1)), (1, (4, 0)), (0, (6, 0))]) (stN := [(0, 5), (0, 5)]) (hsN := jpA_3560) (c1 := 0) (s1 := 0) (c2 := 0) (s2 := 0) (by exact rfl) ?_ (by omega) (by omega)
  refine jT_xiconst (k := 5) (pcN := 33) jI_379_32 rfl ?_
  refine jT_xisub (x := 5) (y := 5) (z := 0) (pcN := 34) jI_379_33 rfl (by decide) rfl ?_
  refine jT_xicT (pcN := 3746) jI_379_34 rfl (by decide +kernel) rfl ?_
  refine jT_xiconst (k := 1) (pcN := 3747) jI_379_3746 rfl ?_
  exact jT_ret rfl (by decide) (by show 50 ≤ 58; decide) (by omega) (by omega) ⟨rfl, rfl⟩
def jpA_3567 : List JC := [jzA_265, jzA_266, (101, [], [0]), jgh, (8, [(4, 30), (4, 31)], []), jgh, jgh, jgh, jgh, jgh, jgh, (101, [], [0, 0, 0, 0, 0, 0]), jgh, jgh, jzA_721, (100, [], jS0), jgh, jgh, jgh, jgh, (130, [], [37, 38, 39, 40, 41, 42]), (101, [], [0, 0, 0, 0, 0, 0]), jgh, jgh, jgh, jgh, jgh, jgh, jgh, jgh, jgh, (101, [], [0, 0, 0, 0, 0, 0]), jzA_324, (117, [], [44, 45, 46, 47]), jgh, jgh, jgh, (100, [], (jenc (jlg 0))), jgh, jgh, jgh, jgh, jgh, (4, [(4, 48), (1, 1)], []), jgh, (7, [(4, 49), (4, (-1)), (4, (-1))], []), jgh, jgh, (101, [], [0, 0, 0, 0, 0, 0]), (114, [], [43])]
def jpA_3568 : List JC := [jzA_265, jzA_266, (101, [], [0]), jgh, (8, [(4, 30), (4, 31)], []), jgh, jgh, jgh, jgh, jgh, jgh, (101, [], [0, 0, 0, 0, 0, 0]), jgh, jgh, jzA_721, (100, [], jS0), jgh, jgh, jgh, jgh, (130, [], [37, 38, 39, 40, 41, 42]), (101, [], [0, 0, 0, 0, 0, 0]), jgh, jgh, jgh, jgh, jgh, jgh, jgh, jgh, jgh, (101, [], [0, 0, 0, 0, 0, 0]), jzA_324, (117, [], [44, 45, 46, 47]), jgh, jgh, jgh, (100, [], (jenc (jlg 0))), jgh, jgh, jgh, jgh, jgh, (4, [(4, 48), (1, 1)], []), jgh, (7, [(4, 49), (4, (-1)), (4, (-1))], []), jgh, jgh, (101, [], [0, 0, 0, 0, 0, 0]), (114, [], [43]), (101, [], [0, 0, 0, 0, 0, 0]), (4, [(4, 50), (1, 1)], [])]
def jpA_3569 : List JC := [jzA_265, jzA_266, (101, [], [0]), jgh, (8, [(4, 30), (4, 31)], []), jgh, jgh, jgh, jgh, jgh, jgh, (101, [], [0, 0, 0, 0, 0, 0]), jgh, jgh, jzA_721, (100, [], jS0), jgh, jgh, jgh, jgh, (130, [], [37, 38, 39, 40, 41, 42]), (101, [], [0, 0, 0, 0, 0, 0]), jgh, jgh, jgh, jgh, jgh, jgh, jgh, jgh, jgh, (101, [], [0, 0, 0, 0, 0, 0]), jzA_324, (117, [], [44, 45, 46, 47]), jgh, jgh, jgh, (100, [], (jenc (jlg 0))), jgh, jgh, jgh, jgh, jgh, (4, [(4, 48), (1, 1)], []), jgh, (7, [(4, 49), (4, (-1)), (4, (-1))], []), jgh, jgh, (101, [], [0, 0, 0, 0, 0, 0]), (114, [], [43]), (101, [], [0, 0, 0, 0, 0, 0]), (4, [(4, 50), (1, 1)], []), (101, [], [0, 0, 0, 0, 0, 0]), (101, [], [(-1), 0, 0, 0, 0, 0]), (100, [], (jenc 0)), (100, [], (jenc (-1))), (100, [], (jenc ((-1) * (jlg 0)))), (101, [], [0, 0, 0, 0, 0, 0])]
set_option maxRecDepth 100000 in
theorem jL_29_3 {d : Nat} {x0 x1 x2 x3 x4 : Int} (h_x0 : (-2147483648) ≤ x0 ∧ x0 ≤ 2147483647) (h_x1 : 1 ≤ x1 ∧ x1 ≤ 1) (h_x2 : 0 ≤ x2 ∧ x2 ≤ 7) (h_x3 : (-2147483648) ≤ x3 ∧ x3 ≤ 2147483647) (h_x4 : (-2147483648) ≤ x4 ∧ x4 ≤ 2147483647) : jT [x0, x1, x2, x3, x4] (d + 8) 379 50 2254 [(5, (0, 0)), (4, (4, 3)), (3, (4, 2)), (2, (4, 1)), (1, (4, 0)), (0, (6, 0))] [] jpA_3567 8 194 (fun k v hsN => k = 0 ∧ v = (0, 1)) := by
  refine jT_xaload_n (v := (4, 0)) (pcN := 2255) jI_379_2254 rfl rfl rfl ?_
  refine jT_xaload_n (v := (6, 0)) (pcN := 2256) jI_379_2255 rfl rfl rfl ?_
  refine jT_xiload (v := (0, 0)) (pcN := 2258) jI_379_2256 rfl rfl rfl ?_
  refine jT_xiconst (k := 1) (pcN := 2259) jI_379_2258 rfl ?_
  refine jT_xiadd (x := 0) (y := 1) (z := 1) (pcN := 2260) jI_379_2259 rfl (by decide) rfl ?_
  refine jT_adv 1 (pcN := 2261) (LN := [(5, (0, 0)), (4, (4, 3)), (3, (4, 2)), (2, (4, 1)), (1, (4, 0)), (0, (6, 0))]) (stN := [(0, x1), (4, 0)]) (hsN := jpA_3567) (c1 := 0) (s1 := 0) (c2 := 8) (s2 := 194) (by exact rfl) ?_ (by omega) (by omega)
  refine jT_eq (LN := [(5, (0, 0)), (4, (4, 3)), (3, (4, 2)), (2, (4, 1)), (1, (4, 0)), (0, (6, 0))]) (stN := [(0, 1), (4, 0)]) (hsN := [jzA_265, jzA_266, (101, [], [0]), jgh, (8, [(4, 30), (4, 31)], []), jgh, jgh, jgh, jgh, jgh, jgh, (101, [], [0, 0, 0, 0, 0, 0]), jgh, jgh, jzA_721, (100, [], jS0), jgh, jgh, jgh, jgh, (130, [], [37, 38, 39, 40, 41, 42]), (101, [], [0, 0, 0, 0, 0, 0]), jgh, jgh, jgh, jgh, jgh, jgh, jgh, jgh, jgh, (101, [], [0, 0, 0, 0, 0, 0]), jzA_324, (117, [], [44, 45, 46, 47]), jgh, jgh, jgh, (100, [], (jenc (jlg 0))), jgh, jgh, jgh, jgh, jgh, (4, [(4, 48), (1, 1)], []), jgh, (7, [(4, 49), (4, (-1)), (4, (-1))], []), jgh, jgh, (101, [], [0, 0, 0, 0, 0, 0]), (114, [], [43])]) (rfl) (by simp only [List.cons.injEq, Prod.mk.injEq, and_true, true_and] <;> ((try unfold jw); (try unfold jwl); omega)) (rfl) ?_
  refine jT_xaload_n (v := (6, 0)) (pcN := 2262) jI_379_2261 rfl rfl rfl ?_
  refine jT_xiload (v := (0, 0)) (pcN := 2264) jI_379_2262 rfl rfl rfl ?_
  refine jT_xiconst (k := 2) (pcN := 2265) jI_379_2264 rfl ?_
  refine jT_xiadd (x := 0) (y := 2) (z := 2) (pcN := 2266) jI_379_2265 rfl (by decide) rfl ?_
  refine jT_adv 1 (pcN := 2267) (LN := [(5, (0, 0)), (4, (4, 3)), (3, (4, 2)), (2, (4, 1)), (1, (4, 0)), (0, (6, 0))]) (stN := [(0, x2), (0, 1), (4, 0)]) (hsN := jpA_3567) (c1 := 0) (s1 := 0) (c2 := 8) (s2 := 194) (by exact rfl) ?_ (by omega) (by omega)
  refine jT_xaload_n (v := (4, 2)) (pcN := 2268) jI_379_2267 rfl rfl rfl ?_
  refine jT_fA [0, 2, 4, 5, 6, 7, 8, 9, 10, 11, 12, 13, 14, 30, 31, 32, 33, 34, 35, 36, 43, 44, 45, 46, 47, 48, 49] 50 (y := 353) (pcN := 2271) (dC := 6) (bc1 := 2) (bc2 := 8) (c1 := 6) (c2 := 186) (as := [(4, 0), (0, 1), (0, x2), (4, 2)]) (asC := [(4, 0), (0, 1), (0, x2), (4, 1)]) (LN := [(5, (0, 0)), (4, (4, 3)), (3, (4, 2)), (2, (4, 1)), (1, (4, 0)), (0, (6, 0))]) (stN := []) (hsC := jpA_3526) (ex := [(101, [], [0, 0, 0, 0, 0, 0]), (4, [(4, 27), (1, 1)], [])]) (v := (0, 0)) (st2 := [(0, 0)]) (hs2 := jpA_3568) (jA_353_870 (d := 0) (by omega)) (by rfl) (by rfl) (by decide +kernel) (by rfl) (by rfl) (by omega) (by omega) (by omega) (by omega) rfl (by decide +kernel) ?_
  refine jT_xistore (v := (0, 0)) (LN := [(6, (0, 0)), (5, (0, 0)), (4, (4, 3)), (3, (4, 2)), (2, (4, 1)), (1, (4, 0)), (0, (6, 0))]) (pcN := 2273) jI_379_2271 rfl rfl rfl rfl ?_
  refine jT_xaload_n (v := (4, 1)) (pcN := 2274) jI_379_2273 rfl rfl rfl ?_
  refine jT_xaload_n (v := (6, 0)) (pcN := 2275) jI_379_2274 rfl rfl rfl ?_
  refine jT_xiload (v := (0, 0)) (pcN := 2277) jI_379_2275 rfl rfl rfl ?_
  refine jT_xiconst (k := 1) (pcN := 2278) jI_379_2277 rfl ?_
  refine jT_xiadd (x := 0) (y := 1) (z := 1) (pcN := 2279) jI_379_2278 rfl (by decide) rfl ?_
  refine jT_adv 1 (pcN := 2280) (LN := [(6, (0, 0)), (5, (0, 0)), (4, (4, 3)), (3, (4, 2)), (2, (4, 1)), (1, (4, 0)), (0, (6, 0))]) (stN := [(0, x1), (4, 1)]) (hsN := jpA_3568) (c1 := 0) (s1 := 0) (c2 := 6) (s2 := 186) (by exact rfl) ?_ (by omega) (by omega)
  refine jT_eq (LN := [(6, (0, 0)), (5, (0, 0)), (4, (4, 3)), (3, (4, 2)), (2, (4, 1)), (1, (4, 0)), (0, (6, 0))]) (stN := [(0, 1), (4, 1)]) (hsN := [jzA_265, jzA_266, (101, [], [0]), jgh, (8, [(4, 30), (4, 31)], []), jgh, jgh, jgh, jgh, jgh, jgh, (101, [], [0, 0, 0, 0, 0, 0]), jgh, jgh, jzA_721, (100, [], jS0), jgh, jgh, jgh, jgh, (130, [], [37, 38, 39, 40, 41, 42]), (101, [], [0, 0, 0, 0, 0, 0]), jgh, jgh, jgh, jgh, jgh, jgh, jgh, jgh, jgh, (101, [], [0, 0, 0, 0, 0, 0]), jzA_324, (117, [], [44, 45, 46, 47]), jgh, jgh, jgh, (100, [], (jenc (jlg 0))), jgh, jgh, jgh, jgh, jgh, (4, [(4, 48), (1, 1)], []), jgh, (7, [(4, 49), (4, (-1)), (4, (-1))], []), jgh, jgh, (101, [], [0, 0, 0, 0, 0, 0]), (114, [], [43]), (101, [], [0, 0, 0, 0, 0, 0]), (4, [(4, 50), (1, 1)], [])]) (rfl) (by simp only [List.cons.injEq, Prod.mk.injEq, and_true, true_and] <;> ((try unfold jw); (try unfold jwl); omega)) (rfl) ?_
  refine jT_xaload_n (v := (6, 0)) (pcN := 2281) jI_379_2280 rfl rfl rfl ?_
  refine jT_xiload (v := (0, 0)) (pcN := 2283) jI_379_2281 rfl rfl rfl ?_
  refine jT_xiconst (k := 2) (pcN := 2284) jI_379_2283 rfl ?_
  refine jT_xiadd (x := 0) (y := 2) (z := 2) (pcN := 2285) jI_379_2284 rfl (by decide) rfl ?_
  refine jT_adv 1 (pcN := 2286) (LN := [(6, (0, 0)), (5, (0, 0)), (4, (4, 3)), (3, (4, 2)), (2, (4, 1)), (1, (4, 0)), (0, (6, 0))]) (stN := [(0, x2), (0, 1), (4, 1)]) (hsN := jpA_3568) (c1 := 0) (s1 := 0) (c2 := 6) (s2 := 186) (by exact rfl) ?_ (by omega) (by omega)
  refine jT_fA [1, 15, 16, 17, 18, 19, 20, 21, 22, 23, 24, 25, 26, 27, 28, 29, 37, 38, 39, 40, 41, 42] 52 (y := 278) (pcN := 2289) (dC := 7) (bc1 := 6) (bc2 := 186) (c1 := 0) (c2 := 0) (as := [(4, 1), (0, 1), (0, x2)]) (asC := [(4, 0), (0, 1), (0, x2)]) (LN := [(6, (0, 0)), (5, (0, 0)), (4, (4, 3)), (3, (4, 2)), (2, (4, 1)), (1, (4, 0)), (0, (6, 0))]) (stN := []) (hsC := jpA_1695) (ex := jpA_3524) (v := (0, 0)) (st2 := [(0, 0)]) (hs2 := jpA_3569) (jA_278_872 (d := 0) (by omega)) (by rfl) (by rfl) (by decide +kernel) (by rfl) (by rfl) (by omega) (by omega) (by omega) (by omega) rfl (by decide +kernel) ?_
  refine jT_xistore (v := (0, 0)) (LN := [(7, (0, 0)), (6, (0, 0)), (5, (0, 0)), (4, (4, 3)), (3, (4, 2)), (2, (4, 1)), (1, (4, 0)), (0, (6, 0))]) (pcN := 2291) jI_379_2289 rfl rfl rfl rfl ?_
  refine jT_xaload_n (v := (4, 1)) (pcN := 2292) jI_379_2291 rfl rfl rfl ?_
  refine jT_fR [1, 15, 16, 17, 18, 19, 20, 21, 22, 23, 24, 25, 26, 27, 28, 29] 58 (y := 186) (pcN := 2295) (dC := 0) (bc1 := 0) (bc2 := 0) (c1 := 0) (c2 := 0) (as := [(4, 1)]) (asC := [(4, 0)]) (LN := [(7, (0, 0)), (6, (0, 0)), (5, (0, 0)), (4, (4, 3)), (3, (4, 2)), (2, (4, 1)), (1, (4, 0)), (0, (6, 0))]) (stN := []) (hsC := jpA_22) (v := (0, 0)) (st2 := [(0, 0)]) (jA_186_726 (d := 0)) (by rfl) (by rfl) (by decide +kernel) (by rfl) (by rfl) (by omega) (by omega) (by omega) (by omega) rfl ?_
  refine jT_xiload (v := (0, 0)) (pcN := 2297) jI_379_2295 rfl rfl rfl ?_
  refine jT_xicT (pcN := 2302) jI_379_2297 rfl (by decide +kernel) rfl ?_
  refine jT_xiload (v := (0, 0)) (pcN := 2304) jI_379_2302 rfl rfl rfl ?_
  refine jT_xifF (t := 2319) (pcN := 2307) jI_379_2304 rfl (by decide +kernel) rfl rfl ?_
  refine jT_xaload_n (v := (4, 2)) (pcN := 2308) jI_379_2307 rfl rfl rfl ?_
  refine jT_xiconst (k := 0) (pcN := 2309) jI_379_2308 rfl ?_
  refine jT_lald (x := 0) (a := 2) (j := 0) (fs := []) (X := [0]) jI_379_2309 rfl rfl rfl rfl ?_
  refine jT_eq (LN := [(7, (0, 0)), (6, (0, 0)), (5, (0, 0)), (4, (4, 3)), (3, (4, 2)), (2, (4, 1)), (1, (4, 0)), (0, (6, 0))]) (stN := [(1, 0)]) (hsN := jpA_3569) rfl rfl rfl ?_
  refine jT_xiload (v := (0, 0)) (pcN := 2312) jI_379_2310 rfl rfl rfl ?_
  refine jT_xi2l (x := 0) (z := 0) (pcN := 2313) jI_379_2312 rfl (by decide +kernel) rfl ?_
  refine jT_lcmp (a := 0) (b := 0) (z := 0) (by rfl) (by rfl) (by decide +kernel) (by decide +kernel) (by decide) ?_
  refine jT_xifT (pcN := 2319) jI_379_2314 rfl (by decide +kernel) rfl ?_
  refine jT_xgoto (pcN := 3740) jI_379_2319 rfl ?_
  refine jT_xiinc (x := 0) (z := 5) (LN := [(5, (0, 5)), (7, (0, 0)), (6, (0, 0)), (4, (4, 3)), (3, (4, 2)), (2, (4, 1)), (1, (4, 0)), (0, (6, 0))]) (pcN := 3743) jI_379_3740 rfl rfl (by decide) rfl rfl ?_
  refine jT_xgoto (pcN := 28) jI_379_3743 rfl ?_
  refine jT_xiload (v := (0, 5)) (pcN := 30) jI_379_28 rfl rfl rfl ?_
  refine jT_xaload_n (v := (6, 0)) (pcN := 31) jI_379_30 rfl rfl rfl ?_
  refine jT_adv 1 (pcN := 32) (LN := [(5, (0, 5)), (7, (0, 0)), (6, (0, 0)), (4, (4, 3)), (3, (4, 2)), (2, (4, 1)), (1, (4, 0)), (0, (6, 0))]) (stN := [(0, 5), (0, 5)]) (hsN := jpA_3569) (c1 := 0) (s1 := 0) (c2 := 0) (s2 := 0) (by exact rfl) ?_ (by omega) (by omega)
  refine jT_xiconst (k := 5) (pcN := 33) jI_379_32 rfl ?_
  refine jT_xisub (x := 5) (y := 5) (z := 0) (pcN := 34) jI_379_33 rfl (by decide) rfl ?_
  refine jT_xicT (pcN := 3746) jI_379_34 rfl (by decide +kernel) rfl ?_
  refine jT_xiconst (k := 1) (pcN := 3747) jI_379_3746 rfl ?_
  exact jT_ret rfl (by decide) (by show 50 ≤ 58; decide) (by omega) (by omega) ⟨rfl, rfl⟩
def jpA_3570 : List JC := [jzA_265, jzA_266, (101, [], [0]), jgh, (8, [(4, 30), (4, 31)], []), jgh, jgh, jgh, jgh, jgh, jgh, (101, [], [0, 0, 0, 0, 0, 0]), jgh, jgh, jzA_721, (100, [], jS0), jgh, jgh, jgh, jgh, (130, [], [37, 38, 39, 40, 41, 42]), (101, [], [0, 0, 0, 0, 0, 0]), jgh, jgh, jgh, jgh, jgh, jgh, jgh, jgh, jgh, (101, [], [0, 0, 0, 0, 0, 0]), jzA_324, (117, [], [44, 45, 46, 47]), jgh, jgh, jgh, (100, [], (jenc (jlg 0))), jgh, jgh, jgh, jgh, jgh, (4, [(4, 48), (1, 1)], []), jgh, jgh, (7, [(4, 49), (4, (-1)), (4, (-1))], []), jgh, (101, [], [0, 0, 0, 0, 0, 0]), (114, [], [43])]
def jpA_3571 : List JC := [jzA_265, jzA_266, (101, [], [0]), jgh, (8, [(4, 30), (4, 31)], []), jgh, jgh, jgh, jgh, jgh, jgh, (101, [], [0, 0, 0, 0, 0, 0]), jgh, jgh, jzA_721, (100, [], jS0), jgh, jgh, jgh, jgh, (130, [], [37, 38, 39, 40, 41, 42]), (101, [], [0, 0, 0, 0, 0, 0]), jgh, jgh, jgh, jgh, jgh, jgh, jgh, jgh, jgh, (101, [], [0, 0, 0, 0, 0, 0]), jzA_324, (117, [], [44, 45, 46, 47]), jgh, jgh, jgh, (100, [], (jenc (jlg 0))), jgh, jgh, jgh, jgh, jgh, (4, [(4, 48), (1, 1)], []), jgh, jgh, (7, [(4, 49), (4, (-1)), (4, (-1))], []), jgh, (101, [], [0, 0, 0, 0, 0, 0]), (114, [], [43]), (101, [], [0, 0, 0, 0, 0, 0]), (4, [(4, 50), (1, 1)], [])]
def jpA_3572 : List JC := [jzA_265, jzA_266, (101, [], [0]), jgh, (8, [(4, 30), (4, 31)], []), jgh, jgh, jgh, jgh, jgh, jgh, (101, [], [0, 0, 0, 0, 0, 0]), jgh, jgh, jzA_721, (100, [], jS0), jgh, jgh, jgh, jgh, (130, [], [37, 38, 39, 40, 41, 42]), (101, [], [0, 0, 0, 0, 0, 0]), jgh, jgh, jgh, jgh, jgh, jgh, jgh, jgh, jgh, (101, [], [0, 0, 0, 0, 0, 0]), jzA_324, (117, [], [44, 45, 46, 47]), jgh, jgh, jgh, (100, [], (jenc (jlg 0))), jgh, jgh, jgh, jgh, jgh, (4, [(4, 48), (1, 1)], []), jgh, jgh, (7, [(4, 49), (4, (-1)), (4, (-1))], []), jgh, (101, [], [0, 0, 0, 0, 0, 0]), (114, [], [43]), (101, [], [0, 0, 0, 0, 0, 0]), (4, [(4, 50), (1, 1)], []), (101, [], [0, 0, 0, 0, 0, 0]), (101, [], [(-1), 0, 0, 0, 0, 0]), (100, [], (jenc 0)), (100, [], (jenc (-1))), (100, [], (jenc ((-1) * (jlg 0)))), (101, [], [0, 0, 0, 0, 0, 0])]
set_option maxRecDepth 100000 in
theorem jL_29_4 {d : Nat} {x0 x1 x2 x3 x4 : Int} (h_x0 : (-2147483648) ≤ x0 ∧ x0 ≤ 2147483647) (h_x1 : 2 ≤ x1 ∧ x1 ≤ 2) (h_x2 : 0 ≤ x2 ∧ x2 ≤ 7) (h_x3 : (-2147483648) ≤ x3 ∧ x3 ≤ 2147483647) (h_x4 : (-2147483648) ≤ x4 ∧ x4 ≤ 2147483647) : jT [x0, x1, x2, x3, x4] (d + 8) 379 50 2254 [(5, (0, 0)), (4, (4, 3)), (3, (4, 2)), (2, (4, 1)), (1, (4, 0)), (0, (6, 0))] [] jpA_3570 8 194 (fun k v hsN => k = 0 ∧ v = (0, 1)) := by
  refine jT_xaload_n (v := (4, 0)) (pcN := 2255) jI_379_2254 rfl rfl rfl ?_
  refine jT_xaload_n (v := (6, 0)) (pcN := 2256) jI_379_2255 rfl rfl rfl ?_
  refine jT_xiload (v := (0, 0)) (pcN := 2258) jI_379_2256 rfl rfl rfl ?_
  refine jT_xiconst (k := 1) (pcN := 2259) jI_379_2258 rfl ?_
  refine jT_xiadd (x := 0) (y := 1) (z := 1) (pcN := 2260) jI_379_2259 rfl (by decide) rfl ?_
  refine jT_adv 1 (pcN := 2261) (LN := [(5, (0, 0)), (4, (4, 3)), (3, (4, 2)), (2, (4, 1)), (1, (4, 0)), (0, (6, 0))]) (stN := [(0, x1), (4, 0)]) (hsN := jpA_3570) (c1 := 0) (s1 := 0) (c2 := 8) (s2 := 194) (by exact rfl) ?_ (by omega) (by omega)
  refine jT_eq (LN := [(5, (0, 0)), (4, (4, 3)), (3, (4, 2)), (2, (4, 1)), (1, (4, 0)), (0, (6, 0))]) (stN := [(0, 2), (4, 0)]) (hsN := [jzA_265, jzA_266, (101, [], [0]), jgh, (8, [(4, 30), (4, 31)], []), jgh, jgh, jgh, jgh, jgh, jgh, (101, [], [0, 0, 0, 0, 0, 0]), jgh, jgh, jzA_721, (100, [], jS0), jgh, jgh, jgh, jgh, (130, [], [37, 38, 39, 40, 41, 42]), (101, [], [0, 0, 0, 0, 0, 0]), jgh, jgh, jgh, jgh, jgh, jgh, jgh, jgh, jgh, (101, [], [0, 0, 0, 0, 0, 0]), jzA_324, (117, [], [44, 45, 46, 47]), jgh, jgh, jgh, (100, [], (jenc (jlg 0))), jgh, jgh, jgh, jgh, jgh, (4, [(4, 48), (1, 1)], []), jgh, jgh, (7, [(4, 49), (4, (-1)), (4, (-1))], []), jgh, (101, [], [0, 0, 0, 0, 0, 0]), (114, [], [43])]) (rfl) (by simp only [List.cons.injEq, Prod.mk.injEq, and_true, true_and] <;> ((try unfold jw); (try unfold jwl); omega)) (rfl) ?_
  refine jT_xaload_n (v := (6, 0)) (pcN := 2262) jI_379_2261 rfl rfl rfl ?_
  refine jT_xiload (v := (0, 0)) (pcN := 2264) jI_379_2262 rfl rfl rfl ?_
  refine jT_xiconst (k := 2) (pcN := 2265) jI_379_2264 rfl ?_
  refine jT_xiadd (x := 0) (y := 2) (z := 2) (pcN := 2266) jI_379_2265 rfl (by decide) rfl ?_
  refine jT_adv 1 (pcN := 2267) (LN := [(5, (0, 0)), (4, (4, 3)), (3, (4, 2)), (2, (4, 1)), (1, (4, 0)), (0, (6, 0))]) (stN := [(0, x2), (0, 2), (4, 0)]) (hsN := jpA_3570) (c1 := 0) (s1 := 0) (c2 := 8) (s2 := 194) (by exact rfl) ?_ (by omega) (by omega)
  refine jT_xaload_n (v := (4, 2)) (pcN := 2268) jI_379_2267 rfl rfl rfl ?_
  refine jT_fA [0, 2, 4, 5, 6, 7, 8, 9, 10, 11, 12, 13, 14, 30, 31, 32, 33, 34, 35, 36, 43, 44, 45, 46, 47, 48, 49] 50 (y := 353) (pcN := 2271) (dC := 6) (bc1 := 2) (bc2 := 8) (c1 := 6) (c2 := 186) (as := [(4, 0), (0, 2), (0, x2), (4, 2)]) (asC := [(4, 0), (0, 2), (0, x2), (4, 1)]) (LN := [(5, (0, 0)), (4, (4, 3)), (3, (4, 2)), (2, (4, 1)), (1, (4, 0)), (0, (6, 0))]) (stN := []) (hsC := jpA_3528) (ex := [(101, [], [0, 0, 0, 0, 0, 0]), (4, [(4, 27), (1, 1)], [])]) (v := (0, 0)) (st2 := [(0, 0)]) (hs2 := jpA_3571) (jA_353_874 (d := 0) (by omega)) (by rfl) (by rfl) (by decide +kernel) (by rfl) (by rfl) (by omega) (by omega) (by omega) (by omega) rfl (by decide +kernel) ?_
  refine jT_xistore (v := (0, 0)) (LN := [(6, (0, 0)), (5, (0, 0)), (4, (4, 3)), (3, (4, 2)), (2, (4, 1)), (1, (4, 0)), (0, (6, 0))]) (pcN := 2273) jI_379_2271 rfl rfl rfl rfl ?_
  refine jT_xaload_n (v := (4, 1)) (pcN := 2274) jI_379_2273 rfl rfl rfl ?_
  refine jT_xaload_n (v := (6, 0)) (pcN := 2275) jI_379_2274 rfl rfl rfl ?_
  refine jT_xiload (v := (0, 0)) (pcN := 2277) jI_379_2275 rfl rfl rfl ?_
  refine jT_xiconst (k := 1) (pcN := 2278) jI_379_2277 rfl ?_
  refine jT_xiadd (x := 0) (y := 1) (z := 1) (pcN := 2279) jI_379_2278 rfl (by decide) rfl ?_
  refine jT_adv 1 (pcN := 2280) (LN := [(6, (0, 0)), (5, (0, 0)), (4, (4, 3)), (3, (4, 2)), (2, (4, 1)), (1, (4, 0)), (0, (6, 0))]) (stN := [(0, x1), (4, 1)]) (hsN := jpA_3571) (c1 := 0) (s1 := 0) (c2 := 6) (s2 := 186) (by exact rfl) ?_ (by omega) (by omega)
  refine jT_eq (LN := [(6, (0, 0)), (5, (0, 0)), (4, (4, 3)), (3, (4, 2)), (2, (4, 1)), (1, (4, 0)), (0, (6, 0))]) (stN := [(0, 2), (4, 1)]) (hsN := [jzA_265, jzA_266, (101, [], [0]), jgh, (8, [(4, 30), (4, 31)], []), jgh, jgh, jgh, jgh, jgh, jgh, (101, [], [0, 0, 0, 0, 0, 0]), jgh, jgh, jzA_721, (100, [], jS0), jgh, jgh, jgh, jgh, (130, [], [37, 38, 39, 40, 41, 42]), (101, [], [0, 0, 0, 0, 0, 0]), jgh, jgh, jgh, jgh, jgh, jgh, jgh, jgh, jgh, (101, [], [0, 0, 0, 0, 0, 0]), jzA_324, (117, [], [44, 45, 46, 47]), jgh, jgh, jgh, (100, [], (jenc (jlg 0))), jgh, jgh, jgh, jgh, jgh, (4, [(4, 48), (1, 1)], []), jgh, jgh, (7, [(4, 49), (4, (-1)), (4, (-1))], []), jgh, (101, [], [0, 0, 0, 0, 0, 0]), (114, [], [43]), (101, [], [0, 0, 0, 0, 0, 0]), (4, [(4, 50), (1, 1)], [])]) (rfl) (by simp only [List.cons.injEq, Prod.mk.injEq, and_true, true_and] <;> ((try unfold jw); (try unfold jwl); omega)) (rfl) ?_
  refine jT_xaload_n (v := (6, 0)) (pcN := 2281) jI_379_2280 rfl rfl rfl ?_
  refine jT_xiload (v := (0, 0)) (pcN := 2283) jI_379_2281 rfl rfl rfl ?_
  refine jT_xiconst (k := 2) (pcN := 2284) jI_379_2283 rfl ?_
  refine jT_xiadd (x := 0) (y := 2) (z := 2) (pcN := 2285) jI_379_2284 rfl (by decide) rfl ?_
  refine jT_adv 1 (pcN := 2286) (LN := [(6, (0, 0)), (5, (0, 0)), (4, (4, 3)), (3, (4, 2)), (2, (4, 1)), (1, (4, 0)), (0, (6, 0))]) (stN := [(0, x2), (0, 2), (4, 1)]) (hsN := jpA_3571) (c1 := 0) (s1 := 0) (c2 := 6) (s2 := 186) (by exact rfl) ?_ (by omega) (by omega)
  refine jT_fA [1, 15, 16, 17, 18, 19, 20, 21, 22, 23, 24, 25, 26, 27, 28, 29, 37, 38, 39, 40, 41, 42] 52 (y := 278) (pcN := 2289) (dC := 7) (bc1 := 6) (bc2 := 186) (c1 := 0) (c2 := 0) (as := [(4, 1), (0, 2), (0, x2)]) (asC := [(4, 0), (0, 2), (0, x2)]) (LN := [(6, (0, 0)), (5, (0, 0)), (4, (4, 3)), (3, (4, 2)), (2, (4, 1)), (1, (4, 0)), (0, (6, 0))]) (stN := []) (hsC := jpA_1695) (ex := jpA_3524) (v := (0, 0)) (st2 := [(0, 0)]) (hs2 := jpA_3572) (jA_278_876 (d := 0) (by omega)) (by rfl) (by rfl) (by decide +kernel) (by rfl) (by rfl) (by omega) (by omega) (by omega) (by omega) rfl (by decide +kernel) ?_
  refine jT_xistore (v := (0, 0)) (LN := [(7, (0, 0)), (6, (0, 0)), (5, (0, 0)), (4, (4, 3)), (3, (4, 2)), (2, (4, 1)), (1, (4, 0)), (0, (6, 0))]) (pcN := 2291) jI_379_2289 rfl rfl rfl rfl ?_
  refine jT_xaload_n (v := (4, 1)) (pcN := 2292) jI_379_2291 rfl rfl rfl ?_
  refine jT_fR [1, 15, 16, 17, 18, 19, 20, 21, 22, 23, 24, 25, 26, 27, 28, 29] 58 (y := 186) (pcN := 2295) (dC := 0) (bc1 := 0) (bc2 := 0) (c1 := 0) (c2 := 0) (as := [(4, 1)]) (asC := [(4, 0)]) (LN := [(7, (0, 0)), (6, (0, 0)), (5, (0, 0)), (4, (4, 3)), (3, (4, 2)), (2, (4, 1)), (1, (4, 0)), (0, (6, 0))]) (stN := []) (hsC := jpA_22) (v := (0, 0)) (st2 := [(0, 0)]) (jA_186_726 (d := 0)) (by rfl) (by rfl) (by decide +kernel) (by rfl) (by rfl) (by omega) (by omega) (by omega) (by omega) rfl ?_
  refine jT_xiload (v := (0, 0)) (pcN := 2297) jI_379_2295 rfl rfl rfl ?_
  refine jT_xicT (pcN := 2302) jI_379_2297 rfl (by decide +kernel) rfl ?_
  refine jT_xiload (v := (0, 0)) (pcN := 2304) jI_379_2302 rfl rfl rfl ?_
  refine jT_xifF (t := 2319) (pcN := 2307) jI_379_2304 rfl (by decide +kernel) rfl rfl ?_
  refine jT_xaload_n (v := (4, 2)) (pcN := 2308) jI_379_2307 rfl rfl rfl ?_
  refine jT_xiconst (k := 0) (pcN := 2309) jI_379_2308 rfl ?_
  refine jT_lald (x := 0) (a := 2) (j := 0) (fs := []) (X := [0]) jI_379_2309 rfl rfl rfl rfl ?_
  refine jT_eq (LN := [(7, (0, 0)), (6, (0, 0)), (5, (0, 0)), (4, (4, 3)), (3, (4, 2)), (2, (4, 1)), (1, (4, 0)), (0, (6, 0))]) (stN := [(1, 0)]) (hsN := jpA_3572) rfl rfl rfl ?_
  refine jT_xiload (v := (0, 0)) (pcN := 2312) jI_379_2310 rfl rfl rfl ?_
  refine jT_xi2l (x := 0) (z := 0) (pcN := 2313) jI_379_2312 rfl (by decide +kernel) rfl ?_
  refine jT_lcmp (a := 0) (b := 0) (z := 0) (by rfl) (by rfl) (by decide +kernel) (by decide +kernel) (by decide) ?_
  refine jT_xifT (pcN := 2319) jI_379_2314 rfl (by decide +kernel) rfl ?_
  refine jT_xgoto (pcN := 3740) jI_379_2319 rfl ?_
  refine jT_xiinc (x := 0) (z := 5) (LN := [(5, (0, 5)), (7, (0, 0)), (6, (0, 0)), (4, (4, 3)), (3, (4, 2)), (2, (4, 1)), (1, (4, 0)), (0, (6, 0))]) (pcN := 3743) jI_379_3740 rfl rfl (by decide) rfl rfl ?_
  refine jT_xgoto (pcN := 28) jI_379_3743 rfl ?_
  refine jT_xiload (v := (0, 5)) (pcN := 30) jI_379_28 rfl rfl rfl ?_
  refine jT_xaload_n (v := (6, 0)) (pcN := 31) jI_379_30 rfl rfl rfl ?_
  refine jT_adv 1 (pcN := 32) (LN := [(5, (0, 5)), (7, (0, 0)), (6, (0, 0)), (4, (4, 3)), (3, (4, 2)), (2, (4, 1)), (1, (4, 0)), (0, (6, 0))]) (stN := [(0, 5), (0, 5)]) (hsN := jpA_3572) (c1 := 0) (s1 := 0) (c2 := 0) (s2 := 0) (by exact rfl) ?_ (by omega) (by omega)
  refine jT_xiconst (k := 5) (pcN := 33) jI_379_32 rfl ?_
  refine jT_xisub (x := 5) (y := 5) (z := 0) (pcN := 34) jI_379_33 rfl (by decide) rfl ?_
  refine jT_xicT (pcN := 3746) jI_379_34 rfl (by decide +kernel) rfl ?_
  refine jT_xiconst (k := 1) (pcN := 3747) jI_379_3746 rfl ?_
  exact jT_ret rfl (by decide) (by show 50 ≤ 58; decide) (by omega) (by omega) ⟨rfl, rfl⟩
def jpA_3573 : List JC := [jzA_265, jzA_266, (101, [], [0]), jgh, (8, [(4, 30), (4, 31)], []), jgh, jgh, jgh, jgh, jgh, jgh, (101, [], [0, 0, 0, 0, 0, 0]), jgh, jgh, jzA_721, (100, [], jS0), jgh, jgh, jgh, jgh, (130, [], [37, 38, 39, 40, 41, 42]), (101, [], [0, 0, 0, 0, 0, 0]), jgh, jgh, jgh, jgh, jgh, jgh, jgh, jgh, jgh, (101, [], [0, 0, 0, 0, 0, 0]), jzA_324, (117, [], [44, 45, 46, 47]), jgh, jgh, jgh, (100, [], (jenc (jlg 0))), jgh, jgh, jgh, jgh, jgh, (4, [(4, 48), (1, 1)], []), jgh, jgh, jgh, (7, [(4, 49), (4, (-1)), (4, (-1))], []), (101, [], [0, 0, 0, 0, 0, 0]), (114, [], [43])]
def jpA_3574 : List JC := [jzA_265, jzA_266, (101, [], [0]), jgh, (8, [(4, 30), (4, 31)], []), jgh, jgh, jgh, jgh, jgh, jgh, (101, [], [0, 0, 0, 0, 0, 0]), jgh, jgh, jzA_721, (100, [], jS0), jgh, jgh, jgh, jgh, (130, [], [37, 38, 39, 40, 41, 42]), (101, [], [0, 0, 0, 0, 0, 0]), jgh, jgh, jgh, jgh, jgh, jgh, jgh, jgh, jgh, (101, [], [0, 0, 0, 0, 0, 0]), jzA_324, (117, [], [44, 45, 46, 47]), jgh, jgh, jgh, (100, [], (jenc (jlg 0))), jgh, jgh, jgh, jgh, jgh, (4, [(4, 48), (1, 1)], []), jgh, jgh, jgh, (7, [(4, 49), (4, (-1)), (4, (-1))], []), (101, [], [0, 0, 0, 0, 0, 0]), (114, [], [43]), (101, [], [0, 0, 0, 0, 0, 0]), (4, [(4, 50), (1, 1)], [])]
def jpA_3575 : List JC := [jzA_265, jzA_266, (101, [], [0]), jgh, (8, [(4, 30), (4, 31)], []), jgh, jgh, jgh, jgh, jgh, jgh, (101, [], [0, 0, 0, 0, 0, 0]), jgh, jgh, jzA_721, (100, [], jS0), jgh, jgh, jgh, jgh, (130, [], [37, 38, 39, 40, 41, 42]), (101, [], [0, 0, 0, 0, 0, 0]), jgh, jgh, jgh, jgh, jgh, jgh, jgh, jgh, jgh, (101, [], [0, 0, 0, 0, 0, 0]), jzA_324, (117, [], [44, 45, 46, 47]), jgh, jgh, jgh, (100, [], (jenc (jlg 0))), jgh, jgh, jgh, jgh, jgh, (4, [(4, 48), (1, 1)], []), jgh, jgh, jgh, (7, [(4, 49), (4, (-1)), (4, (-1))], []), (101, [], [0, 0, 0, 0, 0, 0]), (114, [], [43]), (101, [], [0, 0, 0, 0, 0, 0]), (4, [(4, 50), (1, 1)], []), (101, [], [0, 0, 0, 0, 0, 0]), (101, [], [(-1), 0, 0, 0, 0, 0]), (100, [], (jenc 0)), (100, [], (jenc (-1))), (100, [], (jenc ((-1) * (jlg 0)))), (101, [], [0, 0, 0, 0, 0, 0])]
set_option maxRecDepth 100000 in
theorem jL_29_5 {d : Nat} {x0 x1 x2 x3 x4 : Int} (h_x0 : (-2147483648) ≤ x0 ∧ x0 ≤ 2147483647) (h_x1 : 3 ≤ x1 ∧ x1 ≤ 3) (h_x2 : 0 ≤ x2 ∧ x2 ≤ 7) (h_x3 : (-2147483648) ≤ x3 ∧ x3 ≤ 2147483647) (h_x4 : (-2147483648) ≤ x4 ∧ x4 ≤ 2147483647) : jT [x0, x1, x2, x3, x4] (d + 8) 379 50 2254 [(5, (0, 0)), (4, (4, 3)), (3, (4, 2)), (2, (4, 1)), (1, (4, 0)), (0, (6, 0))] [] jpA_3573 8 194 (fun k v hsN => k = 0 ∧ v = (0, 1)) := by
  refine jT_xaload_n (v := (4, 0)) (pcN := 2255) jI_379_2254 rfl rfl rfl ?_
  refine jT_xaload_n (v := (6, 0)) (pcN := 2256) jI_379_2255 rfl rfl rfl ?_
  refine jT_xiload (v := (0, 0)) (pcN := 2258) jI_379_2256 rfl rfl rfl ?_
  refine jT_xiconst (k := 1) (pcN := 2259) jI_379_2258 rfl ?_
  refine jT_xiadd (x := 0) (y := 1) (z := 1) (pcN := 2260) jI_379_2259 rfl (by decide) rfl ?_
  refine jT_adv 1 (pcN := 2261) (LN := [(5, (0, 0)), (4, (4, 3)), (3, (4, 2)), (2, (4, 1)), (1, (4, 0)), (0, (6, 0))]) (stN := [(0, x1), (4, 0)]) (hsN := jpA_3573) (c1 := 0) (s1 := 0) (c2 := 8) (s2 := 194) (by exact rfl) ?_ (by omega) (by omega)
  refine jT_eq (LN := [(5, (0, 0)), (4, (4, 3)), (3, (4, 2)), (2, (4, 1)), (1, (4, 0)), (0, (6, 0))]) (stN := [(0, 3), (4, 0)]) (hsN := [jzA_265, jzA_266, (101, [], [0]), jgh, (8, [(4, 30), (4, 31)], []), jgh, jgh, jgh, jgh, jgh, jgh, (101, [], [0, 0, 0, 0, 0, 0]), jgh, jgh, jzA_721, (100, [], jS0), jgh, jgh, jgh, jgh, (130, [], [37, 38, 39, 40, 41, 42]), (101, [], [0, 0, 0, 0, 0, 0]), jgh, jgh, jgh, jgh, jgh, jgh, jgh, jgh, jgh, (101, [], [0, 0, 0, 0, 0, 0]), jzA_324, (117, [], [44, 45, 46, 47]), jgh, jgh, jgh, (100, [], (jenc (jlg 0))), jgh, jgh, jgh, jgh, jgh, (4, [(4, 48), (1, 1)], []), jgh, jgh, jgh, (7, [(4, 49), (4, (-1)), (4, (-1))], []), (101, [], [0, 0, 0, 0, 0, 0]), (114, [], [43])]) (rfl) (by simp only [List.cons.injEq, Prod.mk.injEq, and_true, true_and] <;> ((try unfold jw); (try unfold jwl); omega)) (rfl) ?_
  refine jT_xaload_n (v := (6, 0)) (pcN := 2262) jI_379_2261 rfl rfl rfl ?_
  refine jT_xiload (v := (0, 0)) (pcN := 2264) jI_379_2262 rfl rfl rfl ?_
  refine jT_xiconst (k := 2) (pcN := 2265) jI_379_2264 rfl ?_
  refine jT_xiadd (x := 0) (y := 2) (z := 2) (pcN := 2266) jI_379_2265 rfl (by decide) rfl ?_
  refine jT_adv 1 (pcN := 2267) (LN := [(5, (0, 0)), (4, (4, 3)), (3, (4, 2)), (2, (4, 1)), (1, (4, 0)), (0, (6, 0))]) (stN := [(0, x2), (0, 3), (4, 0)]) (hsN := jpA_3573) (c1 := 0) (s1 := 0) (c2 := 8) (s2 := 194) (by exact rfl) ?_ (by omega) (by omega)
  refine jT_xaload_n (v := (4, 2)) (pcN := 2268) jI_379_2267 rfl rfl rfl ?_
  refine jT_fA [0, 2, 4, 5, 6, 7, 8, 9, 10, 11, 12, 13, 14, 30, 31, 32, 33, 34, 35, 36, 43, 44, 45, 46, 47, 48, 49] 50 (y := 353) (pcN := 2271) (dC := 6) (bc1 := 2) (bc2 := 8) (c1 := 6) (c2 := 186) (as := [(4, 0), (0, 3), (0, x2), (4, 2)]) (asC := [(4, 0), (0, 3), (0, x2), (4, 1)]) (LN := [(5, (0, 0)), (4, (4, 3)), (3, (4, 2)), (2, (4, 1)), (1, (4, 0)), (0, (6, 0))]) (stN := []) (hsC := jpA_3530) (ex := [(101, [], [0, 0, 0, 0, 0, 0]), (4, [(4, 27), (1, 1)], [])]) (v := (0, 0)) (st2 := [(0, 0)]) (hs2 := jpA_3574) (jA_353_878 (d := 0) (by omega)) (by rfl) (by rfl) (by decide +kernel) (by rfl) (by rfl) (by omega) (by omega) (by omega) (by omega) rfl (by decide +kernel) ?_
  refine jT_xistore (v := (0, 0)) (LN := [(6, (0, 0)), (5, (0, 0)), (4, (4, 3)), (3, (4, 2)), (2, (4, 1)), (1, (4, 0)), (0, (6, 0))]) (pcN := 2273) jI_379_2271 rfl rfl rfl rfl ?_
  refine jT_xaload_n (v := (4, 1)) (pcN := 2274) jI_379_2273 rfl rfl rfl ?_
  refine jT_xaload_n (v := (6, 0)) (pcN := 2275) jI_379_2274 rfl rfl rfl ?_
  refine jT_xiload (v := (0, 0)) (pcN := 2277) jI_379_2275 rfl rfl rfl ?_
  refine jT_xiconst (k := 1) (pcN := 2278) jI_379_2277 rfl ?_
  refine jT_xiadd (x := 0) (y := 1) (z := 1) (pcN := 2279) jI_379_2278 rfl (by decide) rfl ?_
  refine jT_adv 1 (pcN := 2280) (LN := [(6, (0, 0)), (5, (0, 0)), (4, (4, 3)), (3, (4, 2)), (2, (4, 1)), (1, (4, 0)), (0, (6, 0))]) (stN := [(0, x1), (4, 1)]) (hsN := jpA_3574) (c1 := 0) (s1 := 0) (c2 := 6) (s2 := 186) (by exact rfl) ?_ (by omega) (by omega)
  refine jT_eq (LN := [(6, (0, 0)), (5, (0, 0)), (4, (4, 3)), (3, (4, 2)), (2, (4, 1)), (1, (4, 0)), (0, (6, 0))]) (stN := [(0, 3), (4, 1)]) (hsN := [jzA_265, jzA_266, (101, [], [0]), jgh, (8, [(4, 30), (4, 31)], []), jgh, jgh, jgh, jgh, jgh, jgh, (101, [], [0, 0, 0, 0, 0, 0]), jgh, jgh, jzA_721, (100, [], jS0), jgh, jgh, jgh, jgh, (130, [], [37, 38, 39, 40, 41, 42]), (101, [], [0, 0, 0, 0, 0, 0]), jgh, jgh, jgh, jgh, jgh, jgh, jgh, jgh, jgh, (101, [], [0, 0, 0, 0, 0, 0]), jzA_324, (117, [], [44, 45, 46, 47]), jgh, jgh, jgh, (100, [], (jenc (jlg 0))), jgh, jgh, jgh, jgh, jgh, (4, [(4, 48), (1, 1)], []), jgh, jgh, jgh, (7, [(4, 49), (4, (-1)), (4, (-1))], []), (101, [], [0, 0, 0, 0, 0, 0]), (114, [], [43]), (101, [], [0, 0, 0, 0, 0, 0]), (4, [(4, 50), (1, 1)], [])]) (rfl) (by simp only [List.cons.injEq, Prod.mk.injEq, and_true, true_and] <;> ((try unfold jw); (try unfold jwl); omega)) (rfl) ?_
  refine jT_xaload_n (v := (6, 0)) (pcN := 2281) jI_379_2280 rfl rfl rfl ?_
  refine jT_xiload (v := (0, 0)) (pcN := 2283) jI_379_2281 rfl rfl rfl ?_
  refine jT_xiconst (k := 2) (pcN := 2284) jI_379_2283 rfl ?_
  refine jT_xiadd (x := 0) (y := 2) (z := 2) (pcN := 2285) jI_379_2284 rfl (by decide) rfl ?_
  refine jT_adv 1 (pcN := 2286) (LN := [(6, (0, 0)), (5, (0, 0)), (4, (4, 3)), (3, (4, 2)), (2, (4, 1)), (1, (4, 0)), (0, (6, 0))]) (stN := [(0, x2), (0, 3), (4, 1)]) (hsN := jpA_3574) (c1 := 0) (s1 := 0) (c2 := 6) (s2 := 186) (by exact rfl) ?_ (by omega) (by omega)
  refine jT_fA [1, 15, 16, 17, 18, 19, 20, 21, 22, 23, 24, 25, 26, 27, 28, 29, 37, 38, 39, 40, 41, 42] 52 (y := 278) (pcN := 2289) (dC := 7) (bc1 := 6) (bc2 := 186) (c1 := 0) (c2 := 0) (as := [(4, 1), (0, 3), (0, x2)]) (asC := [(4, 0), (0, 3), (0, x2)]) (LN := [(6, (0, 0)), (5, (0, 0)), (4, (4, 3)), (3, (4, 2)), (2, (4, 1)), (1, (4, 0)), (0, (6, 0))]) (stN := []) (hsC := jpA_1695) (ex := jpA_3524) (v := (0, 0)) (st2 := [(0, 0)]) (hs2 := jpA_3575) (jA_278_880 (d := 0) (by omega)) (by rfl) (by rfl) (by decide +kernel) (by rfl) (by rfl) (by omega) (by omega) (by omega) (by omega) rfl (by decide +kernel) ?_
  refine jT_xistore (v := (0, 0)) (LN := [(7, (0, 0)), (6, (0, 0)), (5, (0, 0)), (4, (4, 3)), (3, (4, 2)), (2, (4, 1)), (1, (4, 0)), (0, (6, 0))]) (pcN := 2291) jI_379_2289 rfl rfl rfl rfl ?_
  refine jT_xaload_n (v := (4, 1)) (pcN := 2292) jI_379_2291 rfl rfl rfl ?_
  refine jT_fR [1, 15, 16, 17, 18, 19, 20, 21, 22, 23, 24, 25, 26, 27, 28, 29] 58 (y := 186) (pcN := 2295) (dC := 0) (bc1 := 0) (bc2 := 0) (c1 := 0) (c2 := 0) (as := [(4, 1)]) (asC := [(4, 0)]) (LN := [(7, (0, 0)), (6, (0, 0)), (5, (0, 0)), (4, (4, 3)), (3, (4, 2)), (2, (4, 1)), (1, (4, 0)), (0, (6, 0))]) (stN := []) (hsC := jpA_22) (v := (0, 0)) (st2 := [(0, 0)]) (jA_186_726 (d := 0)) (by rfl) (by rfl) (by decide +kernel) (by rfl) (by rfl) (by omega) (by omega) (by omega) (by omega) rfl ?_
  refine jT_xiload (v := (0, 0)) (pcN := 2297) jI_379_2295 rfl rfl rfl ?_
  refine jT_xicT (pcN := 2302) jI_379_2297 rfl (by decide +kernel) rfl ?_
  refine jT_xiload (v := (0, 0)) (pcN := 2304) jI_379_2302 rfl rfl rfl ?_
  refine jT_xifF (t := 2319) (pcN := 2307) jI_379_2304 rfl (by decide +kernel) rfl rfl ?_
  refine jT_xaload_n (v := (4, 2)) (pcN := 2308) jI_379_2307 rfl rfl rfl ?_
  refine jT_xiconst (k := 0) (pcN := 2309) jI_379_2308 rfl ?_
  refine jT_lald (x := 0) (a := 2) (j := 0) (fs := []) (X := [0]) jI_379_2309 rfl rfl rfl rfl ?_
  refine jT_eq (LN := [(7, (0, 0)), (6, (0, 0)), (5, (0, 0)), (4, (4, 3)), (3, (4, 2)), (2, (4, 1)), (1, (4, 0)), (0, (6, 0))]) (stN := [(1, 0)]) (hsN := jpA_3575) rfl rfl rfl ?_
  refine jT_xiload (v := (0, 0)) (pcN := 2312) jI_379_2310 rfl rfl rfl ?_
  refine jT_xi2l (x := 0) (z := 0) (pcN := 2313) jI_379_2312 rfl (by decide +kernel) rfl ?_
  refine jT_lcmp (a := 0) (b := 0) (z := 0) (by rfl) (by rfl) (by decide +kernel) (by decide +kernel) (by decide) ?_
  refine jT_xifT (pcN := 2319) jI_379_2314 rfl (by decide +kernel) rfl ?_
  refine jT_xgoto (pcN := 3740) jI_379_2319 rfl ?_
  refine jT_xiinc (x := 0) (z := 5) (LN := [(5, (0, 5)), (7, (0, 0)), (6, (0, 0)), (4, (4, 3)), (3, (4, 2)), (2, (4, 1)), (1, (4, 0)), (0, (6, 0))]) (pcN := 3743) jI_379_3740 rfl rfl (by decide) rfl rfl ?_
  refine jT_xgoto (pcN := 28) jI_379_3743 rfl ?_
  refine jT_xiload (v := (0, 5)) (pcN := 30) jI_379_28 rfl rfl rfl ?_
  refine jT_xaload_n (v := (6, 0)) (pcN := 31) jI_379_30 rfl rfl rfl ?_
  refine jT_adv 1 (pcN := 32) (LN := [(5, (0, 5)), (7, (0, 0)), (6, (0, 0)), (4, (4, 3)), (3, (4, 2)), (2, (4, 1)), (1, (4, 0)), (0, (6, 0))]) (stN := [(0, 5), (0, 5)]) (hsN := jpA_3575) (c1 := 0) (s1 := 0) (c2 := 0) (s2 := 0) (by exact rfl) ?_ (by omega) (by omega)
  refine jT_xiconst (k := 5) (pcN := 33) jI_379_32 rfl ?_
  refine jT_xisub (x := 5) (y := 5) (z := 0) (pcN := 34) jI_379_33 rfl (by decide) rfl ?_
  refine jT_xicT (pcN := 3746) jI_379_34 rfl (by decide +kernel) rfl ?_
  refine jT_xiconst (k := 1) (pcN := 3747) jI_379_3746 rfl ?_
  exact jT_ret rfl (by decide) (by show 50 ≤ 58; decide) (by omega) (by omega) ⟨rfl, rfl⟩
set_option maxRecDepth 100000 in
theorem jL_29_6 {d : Nat} {x0 x1 x2 x3 x4 : Int} (h_x0 : (-2147483648) ≤ x0 ∧ x0 ≤ 2147483647) (h_x1 : 0 ≤ x1 ∧ x1 ≤ 3) (h_x2 : 8 ≤ x2 ∧ x2 ≤ 2147483647) (h_x3 : (-2147483648) ≤ x3 ∧ x3 ≤ 2147483647) (h_x4 : (-2147483648) ≤ x4 ∧ x4 ≤ 2147483647) : jT [x0, x1, x2, x3, x4] (d + 3) 379 30 2254 [(5, (0, 0)), (4, (4, 3)), (3, (4, 2)), (2, (4, 1)), (1, (4, 0)), (0, (6, 0))] [] jpA_267 1 6 (fun k v hsN => k = 0 ∧ v = (0, 1)) := by
  refine jT_xaload_n (v := (4, 0)) (pcN := 2255) jI_379_2254 rfl rfl rfl ?_
  refine jT_xaload_n (v := (6, 0)) (pcN := 2256) jI_379_2255 rfl rfl rfl ?_
  refine jT_xiload (v := (0, 0)) (pcN := 2258) jI_379_2256 rfl rfl rfl ?_
  refine jT_xiconst (k := 1) (pcN := 2259) jI_379_2258 rfl ?_
  refine jT_xiadd (x := 0) (y := 1) (z := 1) (pcN := 2260) jI_379_2259 rfl (by decide) rfl ?_
  refine jT_adv 1 (pcN := 2261) (LN := [(5, (0, 0)), (4, (4, 3)), (3, (4, 2)), (2, (4, 1)), (1, (4, 0)), (0, (6, 0))]) (stN := [(0, x1), (4, 0)]) (hsN := jpA_267) (c1 := 0) (s1 := 0) (c2 := 1) (s2 := 6) (by exact rfl) ?_ (by omega) (by omega)
  refine jT_xaload_n (v := (6, 0)) (pcN := 2262) jI_379_2261 rfl rfl rfl ?_
  refine jT_xiload (v := (0, 0)) (pcN := 2264) jI_379_2262 rfl rfl rfl ?_
  refine jT_xiconst (k := 2) (pcN := 2265) jI_379_2264 rfl ?_
  refine jT_xiadd (x := 0) (y := 2) (z := 2) (pcN := 2266) jI_379_2265 rfl (by decide) rfl ?_
  refine jT_adv 1 (pcN := 2267) (LN := [(5, (0, 0)), (4, (4, 3)), (3, (4, 2)), (2, (4, 1)), (1, (4, 0)), (0, (6, 0))]) (stN := [(0, x2), (0, x1), (4, 0)]) (hsN := jpA_267) (c1 := 0) (s1 := 0) (c2 := 1) (s2 := 6) (by exact rfl) ?_ (by omega) (by omega)
  refine jT_xaload_n (v := (4, 2)) (pcN := 2268) jI_379_2267 rfl rfl rfl ?_
  refine jT_fR [0, 2, 4, 5, 6, 7, 8, 9, 10, 11, 12, 13, 14] 30 (y := 353) (pcN := 2271) (dC := 2) (bc1 := 1) (bc2 := 6) (c1 := 0) (c2 := 0) (as := [(4, 0), (0, x1), (0, x2), (4, 2)]) (asC := [(4, 0), (0, x1), (0, x2), (4, 1)]) (LN := [(5, (0, 0)), (4, (4, 3)), (3, (4, 2)), (2, (4, 1)), (1, (4, 0)), (0, (6, 0))]) (stN := []) (hsC := jpA_15) (v := (0, 1)) (st2 := [(0, 1)]) (jA_353_882 (d := 0) (by omega) (by omega)) (by rfl) (by rfl) (by decide +kernel) (by rfl) (by rfl) (by omega) (by omega) (by omega) (by omega) rfl ?_
  refine jT_xistore (v := (0, 1)) (LN := [(6, (0, 1)), (5, (0, 0)), (4, (4, 3)), (3, (4, 2)), (2, (4, 1)), (1, (4, 0)), (0, (6, 0))]) (pcN := 2273) jI_379_2271 rfl rfl rfl rfl ?_
  refine jT_xaload_n (v := (4, 1)) (pcN := 2274) jI_379_2273 rfl rfl rfl ?_
  refine jT_xaload_n (v := (6, 0)) (pcN := 2275) jI_379_2274 rfl rfl rfl ?_
  refine jT_xiload (v := (0, 0)) (pcN := 2277) jI_379_2275 rfl rfl rfl ?_
  refine jT_xiconst (k := 1) (pcN := 2278) jI_379_2277 rfl ?_
  refine jT_xiadd (x := 0) (y := 1) (z := 1) (pcN := 2279) jI_379_2278 rfl (by decide) rfl ?_
  refine jT_adv 1 (pcN := 2280) (LN := [(6, (0, 1)), (5, (0, 0)), (4, (4, 3)), (3, (4, 2)), (2, (4, 1)), (1, (4, 0)), (0, (6, 0))]) (stN := [(0, x1), (4, 1)]) (hsN := jpA_267) (c1 := 0) (s1 := 0) (c2 := 0) (s2 := 0) (by exact rfl) ?_ (by omega) (by omega)
  refine jT_xaload_n (v := (6, 0)) (pcN := 2281) jI_379_2280 rfl rfl rfl ?_
  refine jT_xiload (v := (0, 0)) (pcN := 2283) jI_379_2281 rfl rfl rfl ?_
  refine jT_xiconst (k := 2) (pcN := 2284) jI_379_2283 rfl ?_
  refine jT_xiadd (x := 0) (y := 2) (z := 2) (pcN := 2285) jI_379_2284 rfl (by decide) rfl ?_
  refine jT_adv 1 (pcN := 2286) (LN := [(6, (0, 1)), (5, (0, 0)), (4, (4, 3)), (3, (4, 2)), (2, (4, 1)), (1, (4, 0)), (0, (6, 0))]) (stN := [(0, x2), (0, x1), (4, 1)]) (hsN := jpA_267) (c1 := 0) (s1 := 0) (c2 := 0) (s2 := 0) (by exact rfl) ?_ (by omega) (by omega)
  refine jT_fB [1, 15, 16, 17, 18, 19, 20, 21, 22, 23, 24, 25, 26, 27, 28, 29] 30 (y := 278) (pcN := 2289) (dC := 2) (bc1 := 0) (bc2 := 0) (c1 := 0) (c2 := 0) (as := [(4, 1), (0, x1), (0, x2)]) (asC := [(4, 0), (0, x1), (0, x2)]) (LN := [(6, (0, 1)), (5, (0, 0)), (4, (4, 3)), (3, (4, 2)), (2, (4, 1)), (1, (4, 0)), (0, (6, 0))]) (stN := []) (hsC := jpA_22) (hsD := jpA_20) (v := (0, 0)) (st2 := [(0, 0)]) (hs2 := jpA_306) (jA_278_883 (d := 0) (by omega) (by omega)) (by rfl) (by rfl) (by decide +kernel) (by rfl) (by rfl) (by omega) (by omega) (by omega) (by omega) rfl (by decide +kernel) ?_
  refine jT_xistore (v := (0, 0)) (LN := [(7, (0, 0)), (6, (0, 1)), (5, (0, 0)), (4, (4, 3)), (3, (4, 2)), (2, (4, 1)), (1, (4, 0)), (0, (6, 0))]) (pcN := 2291) jI_379_2289 rfl rfl rfl rfl ?_
  refine jT_xaload_n (v := (4, 1)) (pcN := 2292) jI_379_2291 rfl rfl rfl ?_
  refine jT_fR [1, 15, 16, 17, 18, 19, 20, 21, 22, 23, 24, 25, 26, 27, 28, 29] 30 (y := 186) (pcN := 2295) (dC := 0) (bc1 := 0) (bc2 := 0) (c1 := 0) (c2 := 0) (as := [(4, 1)]) (asC := [(4, 0)]) (LN := [(7, (0, 0)), (6, (0, 1)), (5, (0, 0)), (4, (4, 3)), (3, (4, 2)), (2, (4, 1)), (1, (4, 0)), (0, (6, 0))]) (stN := []) (hsC := jpA_20) (v := (0, 1)) (st2 := [(0, 1)]) (jA_186_8 (d := 0)) (by rfl) (by rfl) (by decide +kernel) (by rfl) (by rfl) (by omega) (by omega) (by omega) (by omega) rfl ?_
  refine jT_xiload (v := (0, 1)) (pcN := 2297) jI_379_2295 rfl rfl rfl ?_
  refine jT_xicT (pcN := 2302) jI_379_2297 rfl (by decide +kernel) rfl ?_
  refine jT_xiload (v := (0, 1)) (pcN := 2304) jI_379_2302 rfl rfl rfl ?_
  refine jT_xifT (pcN := 2319) jI_379_2304 rfl (by decide +kernel) rfl ?_
  refine jT_xgoto (pcN := 3740) jI_379_2319 rfl ?_
  refine jT_xiinc (x := 0) (z := 5) (LN := [(5, (0, 5)), (7, (0, 0)), (6, (0, 1)), (4, (4, 3)), (3, (4, 2)), (2, (4, 1)), (1, (4, 0)), (0, (6, 0))]) (pcN := 3743) jI_379_3740 rfl rfl (by decide) rfl rfl ?_
  refine jT_xgoto (pcN := 28) jI_379_3743 rfl ?_
  refine jT_xiload (v := (0, 5)) (pcN := 30) jI_379_28 rfl rfl rfl ?_
  refine jT_xaload_n (v := (6, 0)) (pcN := 31) jI_379_30 rfl rfl rfl ?_
  refine jT_adv 1 (pcN := 32) (LN := [(5, (0, 5)), (7, (0, 0)), (6, (0, 1)), (4, (4, 3)), (3, (4, 2)), (2, (4, 1)), (1, (4, 0)), (0, (6, 0))]) (stN := [(0, 5), (0, 5)]) (hsN := jpA_306) (c1 := 0) (s1 := 0) (c2 := 0) (s2 := 0) (by exact rfl) ?_ (by omega) (by omega)
  refine jT_xiconst (k := 5) (pcN := 33) jI_379_32 rfl ?_
  refine jT_xisub (x := 5) (y := 5) (z := 0) (pcN := 34) jI_379_33 rfl (by decide) rfl ?_
  refine jT_xicT (pcN := 3746) jI_379_34 rfl (by decide +kernel) rfl ?_
  refine jT_xiconst (k := 1) (pcN := 3747) jI_379_3746 rfl ?_
  exact jT_ret rfl (by decide) (by show 30 ≤ 30; decide) (by omega) (by omega) ⟨rfl, rfl⟩
set_option maxRecDepth 100000 in
theorem jL_29_7 {d : Nat} {x0 x1 x2 x3 x4 : Int} (h_x0 : (-2147483648) ≤ x0 ∧ x0 ≤ 2147483647) (h_x1 : 4 ≤ x1 ∧ x1 ≤ 2147483647) (h_x2 : (-2147483648) ≤ x2 ∧ x2 ≤ 2147483647) (h_x3 : (-2147483648) ≤ x3 ∧ x3 ≤ 2147483647) (h_x4 : (-2147483648) ≤ x4 ∧ x4 ≤ 2147483647) : jT [x0, x1, x2, x3, x4] (d + 3) 379 30 2254 [(5, (0, 0)), (4, (4, 3)), (3, (4, 2)), (2, (4, 1)), (1, (4, 0)), (0, (6, 0))] [] jpA_267 1 6 (fun k v hsN => k = 0 ∧ v = (0, 1)) := by
  refine jT_xaload_n (v := (4, 0)) (pcN := 2255) jI_379_2254 rfl rfl rfl ?_
  refine jT_xaload_n (v := (6, 0)) (pcN := 2256) jI_379_2255 rfl rfl rfl ?_
  refine jT_xiload (v := (0, 0)) (pcN := 2258) jI_379_2256 rfl rfl rfl ?_
  refine jT_xiconst (k := 1) (pcN := 2259) jI_379_2258 rfl ?_
  refine jT_xiadd (x := 0) (y := 1) (z := 1) (pcN := 2260) jI_379_2259 rfl (by decide) rfl ?_
  refine jT_adv 1 (pcN := 2261) (LN := [(5, (0, 0)), (4, (4, 3)), (3, (4, 2)), (2, (4, 1)), (1, (4, 0)), (0, (6, 0))]) (stN := [(0, x1), (4, 0)]) (hsN := jpA_267) (c1 := 0) (s1 := 0) (c2 := 1) (s2 := 6) (by exact rfl) ?_ (by omega) (by omega)
  refine jT_xaload_n (v := (6, 0)) (pcN := 2262) jI_379_2261 rfl rfl rfl ?_
  refine jT_xiload (v := (0, 0)) (pcN := 2264) jI_379_2262 rfl rfl rfl ?_
  refine jT_xiconst (k := 2) (pcN := 2265) jI_379_2264 rfl ?_
  refine jT_xiadd (x := 0) (y := 2) (z := 2) (pcN := 2266) jI_379_2265 rfl (by decide) rfl ?_
  refine jT_adv 1 (pcN := 2267) (LN := [(5, (0, 0)), (4, (4, 3)), (3, (4, 2)), (2, (4, 1)), (1, (4, 0)), (0, (6, 0))]) (stN := [(0, x2), (0, x1), (4, 0)]) (hsN := jpA_267) (c1 := 0) (s1 := 0) (c2 := 1) (s2 := 6) (by exact rfl) ?_ (by omega) (by omega)
  refine jT_xaload_n (v := (4, 2)) (pcN := 2268) jI_379_2267 rfl rfl rfl ?_
  refine jT_fR [0, 2, 4, 5, 6, 7, 8, 9, 10, 11, 12, 13, 14] 30 (y := 353) (pcN := 2271) (dC := 2) (bc1 := 1) (bc2 := 6) (c1 := 0) (c2 := 0) (as := [(4, 0), (0, x1), (0, x2), (4, 2)]) (asC := [(4, 0), (0, x1), (0, x2), (4, 1)]) (LN := [(5, (0, 0)), (4, (4, 3)), (3, (4, 2)), (2, (4, 1)), (1, (4, 0)), (0, (6, 0))]) (stN := []) (hsC := jpA_15) (v := (0, 1)) (st2 := [(0, 1)]) (jA_353_885 (d := 0) (by omega) (by omega)) (by rfl) (by rfl) (by decide +kernel) (by rfl) (by rfl) (by omega) (by omega) (by omega) (by omega) rfl ?_
  refine jT_xistore (v := (0, 1)) (LN := [(6, (0, 1)), (5, (0, 0)), (4, (4, 3)), (3, (4, 2)), (2, (4, 1)), (1, (4, 0)), (0, (6, 0))]) (pcN := 2273) jI_379_2271 rfl rfl rfl rfl ?_
  refine jT_xaload_n (v := (4, 1)) (pcN := 2274) jI_379_2273 rfl rfl rfl ?_
  refine jT_xaload_n (v := (6, 0)) (pcN := 2275) jI_379_2274 rfl rfl rfl ?_
  refine jT_xiload (v := (0, 0)) (pcN := 2277) jI_379_2275 rfl rfl rfl ?_
  refine jT_xiconst (k := 1) (pcN := 2278) jI_379_2277 rfl ?_
  refine jT_xiadd (x := 0) (y := 1) (z := 1) (pcN := 2279) jI_379_2278 rfl (by decide) rfl ?_
  refine jT_adv 1 (pcN := 2280) (LN := [(6, (0, 1)), (5, (0, 0)), (4, (4, 3)), (3, (4, 2)), (2, (4, 1)), (1, (4, 0)), (0, (6, 0))]) (stN := [(0, x1), (4, 1)]) (hsN := jpA_267) (c1 := 0) (s1 := 0) (c2 := 0) (s2 := 0) (by exact rfl) ?_ (by omega) (by omega)
  refine jT_xaload_n (v := (6, 0)) (pcN := 2281) jI_379_2280 rfl rfl rfl ?_
  refine jT_xiload (v := (0, 0)) (pcN := 2283) jI_379_2281 rfl rfl rfl ?_
  refine jT_xiconst (k := 2) (pcN := 2284) jI_379_2283 rfl ?_
  refine jT_xiadd (x := 0) (y := 2) (z := 2) (pcN := 2285) jI_379_2284 rfl (by decide) rfl ?_
  refine jT_adv 1 (pcN := 2286) (LN := [(6, (0, 1)), (5, (0, 0)), (4, (4, 3)), (3, (4, 2)), (2, (4, 1)), (1, (4, 0)), (0, (6, 0))]) (stN := [(0, x2), (0, x1), (4, 1)]) (hsN := jpA_267) (c1 := 0) (s1 := 0) (c2 := 0) (s2 := 0) (by exact rfl) ?_ (by omega) (by omega)
  refine jT_fB [1, 15, 16, 17, 18, 19, 20, 21, 22, 23, 24, 25, 26, 27, 28, 29] 30 (y := 278) (pcN := 2289) (dC := 2) (bc1 := 0) (bc2 := 0) (c1 := 0) (c2 := 0) (as := [(4, 1), (0, x1), (0, x2)]) (asC := [(4, 0), (0, x1), (0, x2)]) (LN := [(6, (0, 1)), (5, (0, 0)), (4, (4, 3)), (3, (4, 2)), (2, (4, 1)), (1, (4, 0)), (0, (6, 0))]) (stN := []) (hsC := jpA_22) (hsD := jpA_20) (v := (0, 0)) (st2 := [(0, 0)]) (hs2 := jpA_306) (jA_278_886 (d := 0) (by omega) (by omega)) (by rfl) (by rfl) (by decide +kernel) (by rfl) (by rfl) (by omega) (by omega) (by omega) (by omega) rfl (by decide +kernel) ?_
  refine jT_xistore (v := (0, 0)) (LN := [(7, (0, 0)), (6, (0, 1)), (5, (0, 0)), (4, (4, 3)), (3, (4, 2)), (2, (4, 1)), (1, (4, 0)), (0, (6, 0))]) (pcN := 2291) jI_379_2289 rfl rfl rfl rfl ?_
  refine jT_xaload_n (v := (4, 1)) (pcN := 2292) jI_379_2291 rfl rfl rfl ?_
  refine jT_fR [1, 15, 16, 17, 18, 19, 20, 21, 22, 23, 24, 25, 26, 27, 28, 29] 30 (y := 186) (pcN := 2295) (dC := 0) (bc1 := 0) (bc2 := 0) (c1 := 0) (c2 := 0) (as := [(4, 1)]) (asC := [(4, 0)]) (LN := [(7, (0, 0)), (6, (0, 1)), (5, (0, 0)), (4, (4, 3)), (3, (4, 2)), (2, (4, 1)), (1, (4, 0)), (0, (6, 0))]) (stN := []) (hsC := jpA_20) (v := (0, 1)) (st2 := [(0, 1)]) (jA_186_8 (d := 0)) (by rfl) (by rfl) (by decide +kernel) (by rfl) (by rfl) (by omega) (by omega) (by omega) (by omega) rfl ?_
  refine jT_xiload (v := (0, 1)) (pcN := 2297) jI_379_2295 rfl rfl rfl ?_
  refine jT_xicT (pcN := 2302) jI_379_2297 rfl (by decide +kernel) rfl ?_
  refine jT_xiload (v := (0, 1)) (pcN := 2304) jI_379_2302 rfl rfl rfl ?_
  refine jT_xifT (pcN := 2319) jI_379_2304 rfl (by decide +kernel) rfl ?_
  refine jT_xgoto (pcN := 3740) jI_379_2319 rfl ?_
  refine jT_xiinc (x := 0) (z := 5) (LN := [(5, (0, 5)), (7, (0, 0)), (6, (0, 1)), (4, (4, 3)), (3, (4, 2)), (2, (4, 1)), (1, (4, 0)), (0, (6, 0))]) (pcN := 3743) jI_379_3740 rfl rfl (by decide) rfl rfl ?_
  refine jT_xgoto (pcN := 28) jI_379_3743 rfl ?_
  refine jT_xiload (v := (0, 5)) (pcN := 30) jI_379_28 rfl rfl rfl ?_
  refine jT_xaload_n (v := (6, 0)) (pcN := 31) jI_379_30 rfl rfl rfl ?_
  refine jT_adv 1 (pcN := 32) (LN := [(5, (0, 5)), (7, (0, 0)), (6, (0, 1)), (4, (4, 3)), (3, (4, 2)), (2, (4, 1)), (1, (4, 0)), (0, (6, 0))]) (stN := [(0, 5), (0, 5)]) (hsN := jpA_306) (c1 := 0) (s1 := 0) (c2 := 0) (s2 := 0) (by exact rfl) ?_ (by omega) (by omega)
  refine jT_xiconst (k := 5) (pcN := 33) jI_379_32 rfl ?_
  refine jT_xisub (x := 5) (y := 5) (z := 0) (pcN := 34) jI_379_33 rfl (by decide) rfl ?_
  refine jT_xicT (pcN := 3746) jI_379_34 rfl (by decide +kernel) rfl ?_
  refine jT_xiconst (k := 1) (pcN := 3747) jI_379_3746 rfl ?_
  exact jT_ret rfl (by decide) (by show 30 ≤ 30; decide) (by omega) (by omega) ⟨rfl, rfl⟩
