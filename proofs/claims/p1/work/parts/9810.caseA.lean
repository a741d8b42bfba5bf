/-! the law, case by case: 31, 32, 33, 35 -/
theorem jI_150_0 : jmI (jm 150) 0 = (.aload_n 0, 1) := by rfl
theorem jI_150_1 : jmI (jm 150) 1 = (.iload_n 1, 1) := by rfl
theorem jI_150_2 : jmI (jm 150) 2 = (.iconst 4, 1) := by rfl
theorem jA_150_1004 {xs : List Int} {d : Nat} {x1 : Int} (h_x1 : (-2147483648) ≤ x1 ∧ x1 ≤ (-1)) : jT xs (d + 1) 150 12 0 [(0, (4, 0)), (1, (0, x1))] [] jpA_6 1 6 (fun k v hsN => k = 1 ∧ v = (0, 0) ∧ hsN = jpA_6 ++ []) := by
  refine jT_xaload_n (v := (4, 0)) (pcN := 1) jI_150_0 rfl rfl rfl ?_
  refine jT_xiload_n (v := (0, x1)) (pcN := 2) jI_150_1 rfl rfl rfl ?_
  refine jT_xiconst (k := 4) (pcN := 3) jI_150_2 rfl ?_
  exact jT_fX [0] 12 (y := 115) (pcN := 6) (dC := 0) (bc1 := 1) (bc2 := 6) (as := [(4, 0), (0, x1), (0, 4)]) (asC := [(4, 0), (0, x1), (0, 4)]) (LN := [(0, (4, 0)), (1, (0, x1))]) (stN := []) (hsC := [jgh]) (e := 0) (jA_115_310 (d := 0) (by omega)) (by rfl) (by rfl) (by decide +kernel) (by rfl) (by rfl) (by omega) (by omega) (by omega) (by omega) ⟨rfl, ⟨rfl, rfl, rfl⟩⟩
theorem jI_355_0 : jmI (jm 355) 0 = (.aload_n 2, 1) := by rfl
theorem jI_355_1 : jmI (jm 355) 1 = (.iconst 0, 1) := by rfl
theorem jI_355_2 : jmI (jm 355) 2 = (.aload_n 0, 1) := by rfl
theorem jI_355_3 : jmI (jm 355) 3 = (.iload_n 1, 1) := by rfl
theorem jA_355_1005 {xs : List Int} {d : Nat} {x1 : Int} (h_x1 : (-2147483648) ≤ x1 ∧ x1 ≤ (-1)) : jT xs (d + 2) 355 13 0 [(0, (4, 0)), (1, (0, x1)), (2, (4, 1))] [] jpA_15 1 6 (fun k v hsN => k = 0 ∧ v = (0, 1) ∧ hsN = jpA_15 ++ []) := by
  refine jT_xaload_n (v := (4, 1)) (pcN := 1) jI_355_0 rfl rfl rfl ?_
  refine jT_xiconst (k := 0) (pcN := 2) jI_355_1 rfl ?_
  refine jT_xaload_n (v := (4, 0)) (pcN := 3) jI_355_2 rfl rfl rfl ?_
  refine jT_xiload_n (v := (0, x1)) (pcN := 4) jI_355_3 rfl rfl rfl ?_
  exact jT_fX [0, 2, 3, 4, 5, 6, 7, 8, 9, 10, 11, 12] 13 (y := 150) (pcN := 7) (dC := 1) (bc1 := 1) (bc2 := 6) (as := [(4, 0), (0, x1)]) (asC := [(4, 0), (0, x1)]) (LN := [(0, (4, 0)), (1, (0, x1)), (2, (4, 1))]) (stN := [(0, 0), (4, 1)]) (hsC := jpA_6) (e := 0) (jA_150_1004 (d := 0) (by omega)) (by rfl) (by rfl) (by decide +kernel) (by rfl) (by rfl) (by omega) (by omega) (by omega) (by omega) (show _ from ⟨rfl, rfl, rfl⟩)
theorem jI_281_0 : jmI (jm 281) 0 = (.aload_n 0, 1) := by rfl
theorem jI_281_1 : jmI (jm 281) 1 = (.iload_n 1, 1) := by rfl
theorem jI_281_8 : jmI (jm 281) 8 = (.ifCond .eq 5, 3) := by rfl
theorem jI_281_11 : jmI (jm 281) 11 = (.iconst 0, 1) := by rfl
theorem jA_281_1006 {xs : List Int} {d : Nat} {x1 : Int} (h_x1 : (-2147483648) ≤ x1 ∧ x1 ≤ (-1)) : jT xs (d + 2) 281 16 0 [(0, (4, 0)), (1, (0, x1))] [] jpA_22 0 0 (fun k v hsN => k = 0 ∧ v = (0, 0) ∧ hsN = jpA_20) := by
  refine jT_xaload_n (v := (4, 0)) (pcN := 1) jI_281_0 rfl rfl rfl ?_
  refine jT_xiload_n (v := (0, x1)) (pcN := 2) jI_281_1 rfl rfl rfl ?_
  refine jT_fR [] 16 (y := 238) (pcN := 5) (dC := 1) (bc1 := 0) (bc2 := 0) (c1 := 0) (c2 := 0) (as := [(0, x1)]) (asC := [(0, x1)]) (LN := [(0, (4, 0)), (1, (0, x1))]) (stN := [(4, 0)]) (hsC := []) (v := (0, 0)) (st2 := [(0, 0), (4, 0)]) (jA_238_313 (d := 0) (by omega)) (by rfl) (by rfl) (by decide +kernel) (by rfl) (by rfl) (by omega) (by omega) (by omega) (by omega) rfl ?_
  refine jT_fB [0, 1, 2, 3, 4, 5, 6, 7, 8, 9, 10, 11, 12, 13, 14, 15] 16 (y := 190) (pcN := 8) (dC := 1) (bc1 := 0) (bc2 := 0) (c1 := 0) (c2 := 0) (as := [(4, 0), (0, 0)]) (asC := [(4, 0), (0, 0)]) (LN := [(0, (4, 0)), (1, (0, x1))]) (stN := []) (hsC := jpA_22) (hsD := jpA_20) (v := (0, 1)) (st2 := [(0, 1)]) (hs2 := jpA_20) (jA_190_6 (d := 0)) (by rfl) (by rfl) (by decide +kernel) (by rfl) (by rfl) (by omega) (by omega) (by omega) (by omega) rfl (by decide +kernel) ?_
  refine jT_xifF (t := 13) (pcN := 11) jI_281_8 rfl (by decide +kernel) rfl rfl ?_
  refine jT_xiconst (k := 0) (pcN := 12) jI_281_11 rfl ?_
  exact jT_ret rfl (by decide) (by show 16 ≤ 16; decide) (by omega) (by omega) ⟨rfl, rfl, rfl⟩
theorem jA_48_1007 {xs : List Int} {d : Nat} : jT xs d 48 3 0 [(0, (4, 0)), (1, (4, 1)), (2, (0, 0)), (3, (4, 2))] [] [jgh, (114, [], [(-1)]), jgh] 0 0 (fun k v hsN => k = 0 ∧ v = (0, (-1)) ∧ hsN = [jgh, (114, [], [(-1)]), jgh] ++ []) := by
  refine jT_advK 13 (pcN := 71) (LN := [(5, (0, 0)), (4, (0, 0)), (0, (4, 0)), (1, (4, 1)), (2, (0, 0)), (3, (4, 2))]) (stN := [(0, (-1))]) (hsN := [jgh, (114, [], [(-1)]), jgh]) (c1 := 0) (s1 := 0) (c2 := 0) (s2 := 0) (by decide +kernel) ?_ (by omega) (by omega)
  exact jT_ret rfl (by decide) (by show 3 ≤ 3; decide) (by omega) (by omega) ⟨rfl, rfl, rfl⟩
def jpA_3732 : List JC := [(8, [(4, 3), (4, 4)], []), (114, [], [(-1)]), (4, [(4, 5), (1, 1)], []), jgh, jgh, jgh]
def jpA_3733 : List JC := [(8, [(4, 3), (4, 4)], []), (114, [], [2]), (4, [(4, 5), (1, 1)], []), jgh, jgh, jgh]
theorem jA_49_1008 {xs : List Int} {d : Nat} : jT xs (d + 1) 49 6 0 [(0, (4, 0)), (1, (4, 1)), (2, (0, 0)), (3, (4, 2))] [] jpA_3732 0 0 (fun k v hsN => k = 0 ∧ v = (0, 1) ∧ hsN = jpA_3733) := by
  refine jT_advK 4 (pcN := 4) (LN := [(0, (4, 0)), (1, (4, 1)), (2, (0, 0)), (3, (4, 2))]) (stN := [(4, 2), (0, 0), (4, 1), (4, 0)]) (hsN := jpA_3732) (c1 := 0) (s1 := 0) (c2 := 0) (s2 := 0) (by decide +kernel) ?_ (by omega) (by omega)
  refine jT_fR [0, 1, 2] 6 (y := 48) (pcN := 7) (dC := 0) (bc1 := 0) (bc2 := 0) (c1 := 0) (c2 := 0) (as := [(4, 0), (4, 1), (0, 0), (4, 2)]) (asC := [(4, 0), (4, 1), (0, 0), (4, 2)]) (LN := [(0, (4, 0)), (1, (4, 1)), (2, (0, 0)), (3, (4, 2))]) (stN := []) (hsC := [jgh, (114, [], [(-1)]), jgh]) (v := (0, (-1))) (st2 := [(0, (-1))]) (jA_48_1007 (d := 0)) (by rfl) (by rfl) (by decide +kernel) (by rfl) (by rfl) (by omega) (by omega) (by omega) (by omega) rfl ?_
  refine jT_advK 23 (pcN := 60) (LN := [(5, (0, 0)), (4, (0, (-1))), (0, (4, 0)), (1, (4, 1)), (2, (0, 0)), (3, (4, 2))]) (stN := [(0, 1)]) (hsN := jpA_3733) (c1 := 0) (s1 := 0) (c2 := 0) (s2 := 0) (by decide +kernel) ?_ (by omega) (by omega)
  exact jT_ret rfl (by decide) (by show 6 ≤ 6; decide) (by omega) (by omega) ⟨rfl, rfl, rfl⟩
def jpA_3734 : List JC := [(7, [(4, 1), (4, 2), (4, 3)], []), jgh, (114, [], [4]), jgh, jgh]
theorem jA_31_1009 {xs : List Int} {d : Nat} : jT xs d 31 5 0 [(0, (4, 0)), (1, (0, 0))] [] jpA_3734 0 0 (fun k v hsN => k = 0 ∧ v = (4, 4) ∧ hsN = jpA_3734 ++ []) := by
  refine jT_advK 7 (pcN := 54) (LN := [(0, (4, 0)), (1, (0, 0))]) (stN := [(4, 4)]) (hsN := jpA_3734) (c1 := 0) (s1 := 0) (c2 := 0) (s2 := 0) (by decide +kernel) ?_ (by omega) (by omega)
  exact jT_ret rfl (by decide) (by show 5 ≤ 5; decide) (by omega) (by omega) ⟨rfl, rfl, rfl⟩
def jpA_3735 : List JC := [(8, [(4, 2), (4, 3)], []), (4, [(4, 4), (1, 1)], []), jgh, (101, [], [0, 0, 0, 0, 0, 0]), (101, [], [1, 0, 0, 0, 0, 0])]
theorem jA_46_1010 {xs : List Int} {d : Nat} : jT xs (d + 2) 46 5 0 [(0, (4, 0)), (1, (4, 1)), (2, (4, 1))] [] jpA_3735 0 0 (fun k v hsN => k = 0 ∧ v = (0, 0) ∧ hsN = jpA_3735 ++ []) := by
  refine jT_advK 152 (pcN := 48) (LN := [(3, (0, 6)), (0, (4, 0)), (1, (4, 1)), (2, (4, 1))]) (stN := [(4, 3), (4, 0)]) (hsN := jpA_3735) (c1 := 0) (s1 := 0) (c2 := 0) (s2 := 0) (by decide +kernel) ?_ (by omega) (by omega)
  refine jT_fR [0, 3, 2] 5 (y := 38) (pcN := 51) (dC := 1) (bc1 := 0) (bc2 := 0) (c1 := 0) (c2 := 0) (as := [(4, 0), (4, 3)]) (asC := [(4, 0), (4, 1)]) (LN := [(3, (0, 6)), (0, (4, 0)), (1, (4, 1)), (2, (4, 1))]) (stN := []) (hsC := [(8, [(4, 2), (4, 1)], []), (101, [], [0, 0, 0, 0, 0, 0]), jgh]) (v := (0, 0)) (st2 := [(0, 0)]) (jA_38_325 (d := 0)) (by rfl) (by rfl) (by decide +kernel) (by rfl) (by rfl) (by omega) (by omega) (by omega) (by omega) rfl ?_
  exact jT_ret rfl (by decide) (by show 5 ≤ 5; decide) (by omega) (by omega) ⟨rfl, rfl, rfl⟩
def jpA_3736 : List JC := [(8, [(4, 3), (4, 4)], []), (114, [], [2]), (4, [(4, 5), (1, 1)], []), jgh, (101, [], [0, 0, 0, 0, 0, 0]), (101, [], [1, 0, 0, 0, 0, 0])]
theorem jA_48_1011 {xs : List Int} {d : Nat} : jT xs (d + 3) 48 6 0 [(0, (4, 0)), (1, (4, 1)), (2, (0, 1)), (3, (4, 2))] [] jpA_3736 0 0 (fun k v hsN => k = 0 ∧ v = (0, 0) ∧ hsN = jpA_3736 ++ []) := by
  refine jT_advK 21 (pcN := 33) (LN := [(6, (0, 0)), (5, (0, 1)), (4, (0, 0)), (0, (4, 0)), (1, (4, 1)), (2, (0, 1)), (3, (4, 2))]) (stN := [(4, 2), (4, 2), (4, 0)]) (hsN := jpA_3736) (c1 := 0) (s1 := 0) (c2 := 0) (s2 := 0) (by decide +kernel) ?_ (by omega) (by omega)
  refine jT_fR [0, 2, 3, 4, 5] 6 (y := 46) (pcN := 36) (dC := 2) (bc1 := 0) (bc2 := 0) (c1 := 0) (c2 := 0) (as := [(4, 0), (4, 2), (4, 2)]) (asC := [(4, 0), (4, 1), (4, 1)]) (LN := [(6, (0, 0)), (5, (0, 1)), (4, (0, 0)), (0, (4, 0)), (1, (4, 1)), (2, (0, 1)), (3, (4, 2))]) (stN := []) (hsC := jpA_3735) (v := (0, 0)) (st2 := [(0, 0)]) (jA_46_1010 (d := 0)) (by rfl) (by rfl) (by decide +kernel) (by rfl) (by rfl) (by omega) (by omega) (by omega) (by omega) rfl ?_
  refine jT_advK 4 (pcN := 45) (LN := [(7, (0, 0)), (6, (0, 0)), (5, (0, 1)), (4, (0, 0)), (0, (4, 0)), (1, (4, 1)), (2, (0, 1)), (3, (4, 2))]) (stN := [(0, 0)]) (hsN := jpA_3736) (c1 := 0) (s1 := 0) (c2 := 0) (s2 := 0) (by decide +kernel) ?_ (by omega) (by omega)
  exact jT_ret rfl (by decide) (by show 6 ≤ 6; decide) (by omega) (by omega) ⟨rfl, rfl, rfl⟩
def jpA_3737 : List JC := [(7, [(4, 2), (4, (-1)), (4, (-1))], []), (8, [(4, 3), (4, 4)], []), (114, [], [5]), jgh, (101, [], [0, 0, 0, 0, 0, 0]), (4, [(4, 6), (1, 1)], []), (101, [], [0, 0, 0, 0, 0, 0]), (114, [], [(-1)])]
def jpA_3738 : List JC := [(7, [(4, 2), (4, 8), (4, (-1))], []), (8, [(4, 3), (4, 4)], []), (114, [], [5]), jgh, (101, [], [0, 0, 0, 0, 0, 0]), (4, [(4, 6), (1, 1)], []), (101, [], [0, 0, 0, 0, 0, 0]), (114, [], [(-1)]), (114, [], [12]), (101, [], [0, 0, 0, 0, 0, 0]), (4, [(4, 9), (1, 1)], []), (101, [], [1, 0, 0, 0, 0, 0]), (4, [(4, 11), (1, 1)], [])]
def jpA_3739 : List JC := [(7, [(4, 2), (4, 8), (4, (-1))], []), (8, [(4, 3), (4, 4)], []), (114, [], [5]), jgh, (101, [], [0, 0, 0, 0, 0, 0]), (4, [(4, 6), (1, 1)], []), (101, [], [0, 0, 0, 0, 0, 0]), (114, [], [12]), (114, [], [12]), (101, [], [0, 0, 0, 0, 0, 0]), (4, [(4, 9), (1, 1)], []), (101, [], [1, 0, 0, 0, 0, 0]), (4, [(4, 11), (1, 1)], [])]
def jpA_3740 : List JC := [(7, [(4, 2), (4, 8), (4, 13)], []), (8, [(4, 3), (4, 4)], []), (114, [], [5]), jgh, (101, [], [0, 0, 0, 0, 0, 0]), (4, [(4, 6), (1, 1)], []), (101, [], [0, 0, 0, 0, 0, 0]), (114, [], [12]), (114, [], [12]), (101, [], [0, 0, 0, 0, 0, 0]), (4, [(4, 9), (1, 1)], []), (101, [], [1, 0, 0, 0, 0, 0]), (4, [(4, 11), (1, 1)], []), (100, [], [0])]
def jpA_3741 : List JC := [(7, [(4, 2), (4, (-1)), (4, (-1))], []), (8, [(4, 3), (4, 4)], []), (114, [], [5]), jgh, (101, [], [0, 0, 0, 0, 0, 0]), (4, [(4, 6), (1, 1)], []), (101, [], [0, 0, 0, 0, 0, 0])]
theorem jA_36_1012 {xs : List Int} {d : Nat} : jT xs (d + 5) 36 7 0 [(0, (4, 0)), (1, (4, 1))] [] jpA_3741 7 19 (fun k v hsN => k = 0 ∧ v = (4, 13) ∧ hsN = jpA_3740) := by
  refine jT_advK 22 (pcN := 37) (LN := [(4, (0, 0)), (3, (0, 0)), (2, (4, 7)), (0, (4, 0)), (1, (4, 1))]) (stN := [(0, 0), (4, 0), (0, 0), (4, 7), (4, 1)]) (hsN := jpA_3737) (c1 := 1) (s1 := 1) (c2 := 6) (s2 := 18) (by decide +kernel) ?_ (by omega) (by omega)
  refine jT_fB [0, 2, 5, 6] 8 (y := 31) (pcN := 40) (dC := 4) (bc1 := 5) (bc2 := 17) (c1 := 1) (c2 := 1) (as := [(4, 0), (0, 0)]) (asC := [(4, 0), (0, 0)]) (LN := [(4, (0, 0)), (3, (0, 0)), (2, (4, 7)), (0, (4, 0)), (1, (4, 1))]) (stN := [(0, 0), (4, 7), (4, 1)]) (hsC := jpA_1822) (hsD := jpA_3610) (v := (4, 8)) (st2 := [(4, 12), (0, 0), (4, 7), (4, 1)]) (hs2 := jpA_3738) (jA_31_897 (d := 0)) (by rfl) (by rfl) (by decide +kernel) (by rfl) (by rfl) (by omega) (by omega) (by omega) (by omega) rfl (by decide +kernel) ?_
  refine jT_fB [1, 7, 12, 3, 4, 11] 13 (y := 49) (pcN := 43) (dC := 1) (bc1 := 0) (bc2 := 0) (c1 := 1) (c2 := 1) (as := [(4, 1), (4, 7), (0, 0), (4, 12)]) (asC := [(4, 0), (4, 1), (0, 0), (4, 2)]) (LN := [(4, (0, 0)), (3, (0, 0)), (2, (4, 7)), (0, (4, 0)), (1, (4, 1))]) (stN := []) (hsC := jpA_3732) (hsD := jpA_3733) (v := (0, 1)) (st2 := [(0, 1)]) (hs2 := jpA_3739) (jA_49_1008 (d := 0)) (by rfl) (by rfl) (by decide +kernel) (by rfl) (by rfl) (by omega) (by omega) (by omega) (by omega) rfl (by decide +kernel) ?_
  refine jT_advK 30 (pcN := 87) (LN := [(4, (0, 0)), (3, (0, 1)), (2, (4, 7)), (0, (4, 0)), (1, (4, 1))]) (stN := [(0, 0), (4, 0), (0, 1), (4, 7), (4, 1), (0, 0), (0, 0), (4, 13)]) (hsN := jpA_3740) (c1 := 1) (s1 := 1) (c2 := 0) (s2 := 0) (by decide +kernel) ?_ (by omega) (by omega)
  refine jT_fR [0, 2, 8, 13, 12] 14 (y := 31) (pcN := 90) (dC := 0) (bc1 := 0) (bc2 := 0) (c1 := 0) (c2 := 0) (as := [(4, 0), (0, 0)]) (asC := [(4, 0), (0, 0)]) (LN := [(4, (0, 0)), (3, (0, 1)), (2, (4, 7)), (0, (4, 0)), (1, (4, 1))]) (stN := [(0, 1), (4, 7), (4, 1), (0, 0), (0, 0), (4, 13)]) (hsC := jpA_3734) (v := (4, 4)) (st2 := [(4, 12), (0, 1), (4, 7), (4, 1), (0, 0), (0, 0), (4, 13)]) (jA_31_1009 (d := 0)) (by rfl) (by rfl) (by decide +kernel) (by rfl) (by rfl) (by omega) (by omega) (by omega) (by omega) rfl ?_
  refine jT_fR [1, 7, 12, 3, 4, 11] 14 (y := 48) (pcN := 93) (dC := 3) (bc1 := 0) (bc2 := 0) (c1 := 0) (c2 := 0) (as := [(4, 1), (4, 7), (0, 1), (4, 12)]) (asC := [(4, 0), (4, 1), (0, 1), (4, 2)]) (LN := [(4, (0, 0)), (3, (0, 1)), (2, (4, 7)), (0, (4, 0)), (1, (4, 1))]) (stN := [(0, 0), (0, 0), (4, 13)]) (hsC := jpA_3736) (v := (0, 0)) (st2 := [(0, 0), (0, 0), (0, 0), (4, 13)]) (jA_48_1011 (d := 0)) (by rfl) (by rfl) (by decide +kernel) (by rfl) (by rfl) (by omega) (by omega) (by omega) (by omega) rfl ?_
  refine jT_advK 11 (pcN := 107) (LN := [(4, (0, 1)), (3, (0, 1)), (2, (4, 7)), (0, (4, 0)), (1, (4, 1))]) (stN := [(4, 13)]) (hsN := jpA_3740) (c1 := 0) (s1 := 0) (c2 := 0) (s2 := 0) (by decide +kernel) ?_ (by omega) (by omega)
  exact jT_ret rfl (by decide) (by show 7 ≤ 14; decide) (by omega) (by omega) ⟨rfl, rfl, rfl⟩
theorem jA_151_1013 {xs : List Int} {d : Nat} : jT xs d 151 2 0 [(0, (4, 0)), (1, (4, 1))] [] [jgh, (100, [], [0])] 0 0 (fun k v hsN => k = 0 ∧ v = (0, 0) ∧ hsN = [jgh, (100, [], [0])] ++ []) := by
  refine jT_advK 26 (pcN := 38) (LN := [(5, (0, 1)), (2, (0, 0)), (6, (0, 0)), (4, (0, 1)), (3, (4, 1)), (0, (4, 0)), (1, (4, 1))]) (stN := [(0, 0)]) (hsN := [jgh, (100, [], [0])]) (c1 := 0) (s1 := 0) (c2 := 0) (s2 := 0) (by decide +kernel) ?_ (by omega) (by omega)
  exact jT_ret rfl (by decide) (by show 2 ≤ 2; decide) (by omega) (by omega) ⟨rfl, rfl, rfl⟩
def jpA_3742 : List JC := [jzA_5, (8, [(4, 12), (4, 13)], []), jgh, jgh, jgh, jgh, jgh, jgh, jgh, jgh, jgh, jzA_640, jgh, (101, [], [0, 0, 0, 0, 0, 0]), jgh, (117, [], [19, 20, 21, 22]), jgh, jgh, jgh, (7, [(4, 23), (4, (-1)), (4, (-1))], []), jgh, jgh, jgh, (114, [], [24]), (4, [(4, 25), (1, 1)], []), (101, [], [0, 0, 0, 0, 0, 0])]
def jpA_3743 : List JC := [jzA_5, (8, [(4, 12), (4, 13)], []), jgh, jgh, jgh, jgh, jgh, jgh, jgh, jgh, jgh, jzA_640, jgh, (101, [], [0, 0, 0, 0, 0, 0]), jgh, (117, [], [19, 20, 21, 22]), jgh, jgh, jgh, (7, [(4, 23), (4, 27), (4, 32)], []), jgh, jgh, jgh, (114, [], [24]), (4, [(4, 25), (1, 1)], []), (101, [], [0, 0, 0, 0, 0, 0]), (114, [], [31]), (114, [], [31]), (101, [], [0, 0, 0, 0, 0, 0]), (4, [(4, 28), (1, 1)], []), (101, [], [1, 0, 0, 0, 0, 0]), (4, [(4, 30), (1, 1)], []), (100, [], [0])]
theorem jA_150_1014 {xs : List Int} {d : Nat} : jT xs (d + 6) 150 26 0 [(0, (4, 0)), (1, (0, 0))] [] jpA_3742 7 19 (fun k v hsN => k = 0 ∧ v = (0, 1) ∧ hsN = jpA_3743) := by
  refine jT_advK 3 (pcN := 3) (LN := [(0, (4, 0)), (1, (0, 0))]) (stN := [(0, 4), (0, 0), (4, 0)]) (hsN := jpA_3742) (c1 := 0) (s1 := 0) (c2 := 7) (s2 := 19) (by decide +kernel) ?_ (by omega) (by omega)
  refine jT_fR [0] 26 (y := 115) (pcN := 6) (dC := 0) (bc1 := 0) (bc2 := 0) (c1 := 7) (c2 := 19) (as := [(4, 0), (0, 0), (0, 4)]) (asC := [(4, 0), (0, 0), (0, 4)]) (LN := [(0, (4, 0)), (1, (0, 0))]) (stN := []) (hsC := [jgh]) (v := (9, 0)) (st2 := []) (jA_115_321 (d := 0)) (by rfl) (by rfl) (by decide +kernel) (by rfl) (by rfl) (by omega) (by omega) (by omega) (by omega) rfl ?_
  refine jT_advK 4 (pcN := 12) (LN := [(0, (4, 0)), (1, (0, 0))]) (stN := [(0, 0), (4, 11), (4, 0)]) (hsN := jpA_3742) (c1 := 0) (s1 := 0) (c2 := 7) (s2 := 19) (by decide +kernel) ?_ (by omega) (by omega)
  refine jT_fR [11, 14, 15, 16, 17, 18, 19, 20, 21, 22] 26 (y := 56) (pcN := 15) (dC := 0) (bc1 := 0) (bc2 := 0) (c1 := 7) (c2 := 19) (as := [(4, 11), (0, 0)]) (asC := [(4, 0), (0, 0)]) (LN := [(0, (4, 0)), (1, (0, 0))]) (stN := [(4, 0)]) (hsC := jpA_1446) (v := (4, 6)) (st2 := [(4, 19), (4, 0)]) (jA_56_322 (d := 0)) (by rfl) (by rfl) (by decide +kernel) (by rfl) (by rfl) (by omega) (by omega) (by omega) (by omega) rfl ?_
  refine jT_advK 2 (pcN := 19) (LN := [(0, (4, 0)), (1, (0, 0))]) (stN := [(4, 1), (4, 19), (4, 0)]) (hsN := jpA_3742) (c1 := 0) (s1 := 0) (c2 := 7) (s2 := 19) (by decide +kernel) ?_ (by omega) (by omega)
  refine jT_fB [19, 1, 23, 12, 13, 24, 25] 26 (y := 36) (pcN := 22) (dC := 5) (bc1 := 7) (bc2 := 19) (c1 := 0) (c2 := 0) (as := [(4, 19), (4, 1)]) (asC := [(4, 0), (4, 1)]) (LN := [(0, (4, 0)), (1, (0, 0))]) (stN := [(4, 0)]) (hsC := jpA_3741) (hsD := jpA_3740) (v := (4, 13)) (st2 := [(4, 32), (4, 0)]) (hs2 := jpA_3743) (jA_36_1012 (d := 0)) (by rfl) (by rfl) (by decide +kernel) (by rfl) (by rfl) (by omega) (by omega) (by omega) (by omega) rfl (by decide +kernel) ?_
  refine jT_fR [0, 32] 33 (y := 151) (pcN := 25) (dC := 0) (bc1 := 0) (bc2 := 0) (c1 := 0) (c2 := 0) (as := [(4, 0), (4, 32)]) (asC := [(4, 0), (4, 1)]) (LN := [(0, (4, 0)), (1, (0, 0))]) (stN := []) (hsC := [jgh, (100, [], [0])]) (v := (0, 0)) (st2 := [(0, 0)]) (jA_151_1013 (d := 0)) (by rfl) (by rfl) (by decide +kernel) (by rfl) (by rfl) (by omega) (by omega) (by omega) (by omega) rfl ?_
  refine jT_advK 2 (pcN := 27) (LN := [(0, (4, 0)), (1, (0, 0))]) (stN := [(0, 1)]) (hsN := jpA_3743) (c1 := 0) (s1 := 0) (c2 := 0) (s2 := 0) (by decide +kernel) ?_ (by omega) (by omega)
  exact jT_ret rfl (by decide) (by show 26 ≤ 33; decide) (by omega) (by omega) ⟨rfl, rfl, rfl⟩
def jpA_3744 : List JC := [jzA_14, (101, [], [0]), (8, [(4, 13), (4, 14)], []), jgh, jgh, jgh, jgh, jgh, jgh, jgh, jgh, jgh, jzA_659, jgh, (101, [], [0, 0, 0, 0, 0, 0]), jgh, (117, [], [20, 21, 22, 23]), jgh, jgh, jgh, (7, [(4, 24), (4, (-1)), (4, (-1))], []), jgh, jgh, jgh, (114, [], [25]), (4, [(4, 26), (1, 1)], []), (101, [], [0, 0, 0, 0, 0, 0])]
def jpA_3745 : List JC := [jzA_14, (101, [], [0]), (8, [(4, 13), (4, 14)], []), jgh, jgh, jgh, jgh, jgh, jgh, jgh, jgh, jgh, jzA_659, jgh, (101, [], [0, 0, 0, 0, 0, 0]), jgh, (117, [], [20, 21, 22, 23]), jgh, jgh, jgh, (7, [(4, 24), (4, 28), (4, 33)], []), jgh, jgh, jgh, (114, [], [25]), (4, [(4, 26), (1, 1)], []), (101, [], [0, 0, 0, 0, 0, 0]), (114, [], [32]), (114, [], [32]), (101, [], [0, 0, 0, 0, 0, 0]), (4, [(4, 29), (1, 1)], []), (101, [], [1, 0, 0, 0, 0, 0]), (4, [(4, 31), (1, 1)], []), (100, [], [0])]
def jpA_3746 : List JC := [jzA_14, (101, [], [1]), (8, [(4, 13), (4, 14)], []), jgh, jgh, jgh, jgh, jgh, jgh, jgh, jgh, jgh, jzA_659, jgh, (101, [], [0, 0, 0, 0, 0, 0]), jgh, (117, [], [20, 21, 22, 23]), jgh, jgh, jgh, (7, [(4, 24), (4, 28), (4, 33)], []), jgh, jgh, jgh, (114, [], [25]), (4, [(4, 26), (1, 1)], []), (101, [], [0, 0, 0, 0, 0, 0]), (114, [], [32]), (114, [], [32]), (101, [], [0, 0, 0, 0, 0, 0]), (4, [(4, 29), (1, 1)], []), (101, [], [1, 0, 0, 0, 0, 0]), (4, [(4, 31), (1, 1)], []), (100, [], [0])]
theorem jA_355_1015 {xs : List Int} {d : Nat} : jT xs (d + 7) 355 27 0 [(0, (4, 0)), (1, (0, 0)), (2, (4, 1))] [] jpA_3744 7 19 (fun k v hsN => k = 0 ∧ v = (0, 0) ∧ hsN = jpA_3746) := by
  refine jT_advK 4 (pcN := 4) (LN := [(0, (4, 0)), (1, (0, 0)), (2, (4, 1))]) (stN := [(0, 0), (4, 0), (0, 0), (4, 1)]) (hsN := jpA_3744) (c1 := 0) (s1 := 0) (c2 := 7) (s2 := 19) (by decide +kernel) ?_ (by omega) (by omega)
  refine jT_fB [0, 2, 3, 4, 5, 6, 7, 8, 9, 10, 11, 12, 13, 14, 15, 16, 17, 18, 19, 20, 21, 22, 23, 24, 25, 26] 27 (y := 150) (pcN := 7) (dC := 6) (bc1 := 7) (bc2 := 19) (c1 := 0) (c2 := 0) (as := [(4, 0), (0, 0)]) (asC := [(4, 0), (0, 0)]) (LN := [(0, (4, 0)), (1, (0, 0)), (2, (4, 1))]) (stN := [(0, 0), (4, 1)]) (hsC := jpA_3742) (hsD := jpA_3743) (v := (0, 1)) (st2 := [(0, 1), (0, 0), (4, 1)]) (hs2 := jpA_3745) (jA_150_1014 (d := 0)) (by rfl) (by rfl) (by decide +kernel) (by rfl) (by rfl) (by omega) (by omega) (by omega) (by omega) rfl (by decide +kernel) ?_
  refine jT_advK 4 (pcN := 16) (LN := [(0, (4, 0)), (1, (0, 0)), (2, (4, 1))]) (stN := [(0, 0)]) (hsN := jpA_3746) (c1 := 0) (s1 := 0) (c2 := 0) (s2 := 0) (by decide +kernel) ?_ (by omega) (by omega)
  exact jT_ret rfl (by decide) (by show 27 ≤ 34; decide) (by omega) (by omega) ⟨rfl, rfl, rfl⟩
def jpA_3747 : List JC := [jzA_1525, (100, [], (List.replicate 1792 0)), jgh, jgh, jgh, jgh, jgh, jgh, (101, [], [1, 0, 0, 0, 0, 0]), jgh, jgh, jgh, jgh, jgh, jgh, jgh]
def jzA_3748 : JC := (100, [], (((List.replicate 1792 0)).set 0 1))
def jpA_3749 : List JC := [jzA_1525, jzA_3748, jgh, jgh, jgh, jgh, jgh, jgh, (101, [], [1, 0, 0, 0, 0, 0]), jgh, jgh, jgh, jgh, jgh, jgh, jgh]
def jzA_3750 : JC := (100, [], (((((List.replicate 1792 0)).set 0 1)).set 1 0))
def jpA_3751 : List JC := [jzA_1525, jzA_3750, jgh, jgh, jgh, jgh, jgh, jgh, (101, [], [1, 0, 0, 0, 0, 0]), jgh, jgh, jgh, jgh, jgh, jgh, jgh]
def jzA_3752 : JC := (100, [], (((((((List.replicate 1792 0)).set 0 1)).set 1 0)).set 2 0))
def jpA_3753 : List JC := [jzA_1525, jzA_3752, jgh, jgh, jgh, jgh, jgh, jgh, (101, [], [1, 0, 0, 0, 0, 0]), jgh, jgh, jgh, jgh, jgh, jgh, jgh]
def jzA_3754 : JC := (100, [], (((((((((List.replicate 1792 0)).set 0 1)).set 1 0)).set 2 0)).set 3 0))
def jpA_3755 : List JC := [jzA_1525, jzA_3754, jgh, jgh, jgh, jgh, jgh, jgh, (101, [], [1, 0, 0, 0, 0, 0]), jgh, jgh, jgh, jgh, jgh, jgh, jgh]
def jzA_3756 : JC := (100, [], (((((((((((List.replicate 1792 0)).set 0 1)).set 1 0)).set 2 0)).set 3 0)).set 4 0))
def jpA_3757 : List JC := [jzA_1525, jzA_3756, jgh, jgh, jgh, jgh, jgh, jgh, (101, [], [1, 0, 0, 0, 0, 0]), jgh, jgh, jgh, jgh, jgh, jgh, jgh]
def jzA_3758 : JC := (100, [], (((((((((((((List.replicate 1792 0)).set 0 1)).set 1 0)).set 2 0)).set 3 0)).set 4 0)).set 5 0))
def jpA_3759 : List JC := [jzA_1525, jzA_3758, jgh, jgh, jgh, jgh, jgh, jgh, (101, [], [1, 0, 0, 0, 0, 0]), jgh, jgh, jgh, jgh, jgh, jgh, jgh]
def jzA_3760 : JC := (100, [], (((((((((((((((List.replicate 1792 0)).set 0 1)).set 1 0)).set 2 0)).set 3 0)).set 4 0)).set 5 0)).set 6 1))
def jpA_3761 : List JC := [jzA_1525, jzA_3760, jgh, jgh, jgh, jgh, jgh, jgh, (101, [], [1, 0, 0, 0, 0, 0]), jgh, jgh, jgh, jgh, jgh, jgh, jgh]
theorem jA_197_1016 {xs : List Int} {d : Nat} : jT xs d 197 16 0 [(0, (4, 0)), (1, (4, 1)), (2, (0, 0))] [] jpA_3747 0 0 (fun k v hsN => k = 0 ∧ v = (9, 0) ∧ hsN = jpA_3761) := by
  refine jT_advK 14 (pcN := 19) (LN := [(3, (0, 0)), (0, (4, 0)), (1, (4, 1)), (2, (0, 0))]) (stN := [(0, 1), (0, 0), (4, 1)]) (hsN := jpA_3747) (c1 := 0) (s1 := 0) (c2 := 0) (s2 := 0) (by decide +kernel) ?_ (by omega) (by omega)
  refine jT_iast (x := 1) (a := 1) (j := 0) (fs := []) (X := (List.replicate 1792 0)) (by rfl) (by rfl) (by rfl) (by rfl) (by rw [show List.length ((List.replicate 1792 0) : List Int) = 1792 from List.length_replicate]; omega) ?_
  refine jT_eq (LN := [(3, (0, 0)), (0, (4, 0)), (1, (4, 1)), (2, (0, 0))]) (stN := []) (hsN := jpA_3749) rfl rfl rfl ?_
  refine jT_advK 14 (pcN := 19) (LN := [(3, (0, 1)), (0, (4, 0)), (1, (4, 1)), (2, (0, 0))]) (stN := [(0, 0), (0, 1), (4, 1)]) (hsN := jpA_3749) (c1 := 0) (s1 := 0) (c2 := 0) (s2 := 0) (by decide +kernel) ?_ (by omega) (by omega)
  refine jT_iast (x := 0) (a := 1) (j := 1) (fs := []) (X := (((List.replicate 1792 0)).set 0 1)) (by rfl) (by rfl) (by rfl) (by rfl) (by rw [show List.length ((((List.replicate 1792 0)).set 0 1) : List Int) = 1792 from by rw [List.length_set]; exact (List.length_replicate)]; omega) ?_
  refine jT_eq (LN := [(3, (0, 1)), (0, (4, 0)), (1, (4, 1)), (2, (0, 0))]) (stN := []) (hsN := jpA_3751) rfl rfl rfl ?_
  refine jT_advK 14 (pcN := 19) (LN := [(3, (0, 2)), (0, (4, 0)), (1, (4, 1)), (2, (0, 0))]) (stN := [(0, 0), (0, 2), (4, 1)]) (hsN := jpA_3751) (c1 := 0) (s1 := 0) (c2 := 0) (s2 := 0) (by decide +kernel) ?_ (by omega) (by omega)
  refine jT_iast (x := 0) (a := 1) (j := 2) (fs := []) (X := (((((List.replicate 1792 0)).set 0 1)).set 1 0)) (by rfl) (by rfl) (by rfl) (by rfl) (by rw [show List.length ((((((List.replicate 1792 0)).set 0 1)).set 1 0) : List Int) = 1792 from by rw [List.length_set, List.length_set]; exact (List.length_replicate)]; omega) ?_
  refine jT_eq (LN := [(3, (0, 2)), (0, (4, 0)), (1, (4, 1)), (2, (0, 0))]) (stN := []) (hsN := jpA_3753) rfl rfl rfl ?_
  refine jT_advK 14 (pcN := 19) (LN := [(3, (0, 3)), (0, (4, 0)), (1, (4, 1)), (2, (0, 0))]) (stN := [(0, 0), (0, 3), (4, 1)]) (hsN := jpA_3753) (c1 := 0) (s1 := 0) (c2 := 0) (s2 := 0) (by decide +kernel) ?_ (by omega) (by omega)
  refine jT_iast (x := 0) (a := 1) (j := 3) (fs := []) (X := (((((((List.replicate 1792 0)).set 0 1)).set 1 0)).set 2 0)) (by rfl) (by rfl) (by rfl) (by rfl) (by rw [show List.length ((((((((List.replicate 1792 0)).set 0 1)).set 1 0)).set 2 0) : List Int) = 1792 from by rw [List.length_set, List.length_set, List.length_set]; exact (List.length_replicate)]; omega) ?_
  refine jT_eq (LN := [(3, (0, 3)), (0, (4, 0)), (1, (4, 1)), (2, (0, 0))]) (stN := []) (hsN := jpA_3755) rfl rfl rfl ?_
  refine jT_advK 14 (pcN := 19) (LN := [(3, (0, 4)), (0, (4, 0)), (1, (4, 1)), (2, (0, 0))]) (stN := [(0, 0), (0, 4), (4, 1)]) (hsN := jpA_3755) (c1 := 0) (s1 := 0) (c2 := 0) (s2 := 0) (by decide +kernel) ?_ (by omega) (by omega)
  refine jT_iast (x := 0) (a := 1) (j := 4) (fs := []) (X := (((((((((List.replicate 1792 0)).set 0 1)).set 1 0)).set 2 0)).set 3 0)) (by rfl) (by rfl) (by rfl) (by rfl) (by rw [show List.length ((((((((((List.replicate 1792 0)).set 0 1)).set 1 0)).set 2 0)).set 3 0) : List Int) = 1792 from by rw [List.length_set, List.length_set, List.length_set, List.length_set]; exact (List.length_replicate)]; omega) ?_
  refine jT_eq (LN := [(3, (0, 4)), (0, (4, 0)), (1, (4, 1)), (2, (0, 0))]) (stN := []) (hsN := jpA_3757) rfl rfl rfl ?_
  refine jT_advK 14 (pcN := 19) (LN := [(3, (0, 5)), (0, (4, 0)), (1, (4, 1)), (2, (0, 0))]) (stN := [(0, 0), (0, 5), (4, 1)]) (hsN := jpA_3757) (c1 := 0) (s1 := 0) (c2 := 0) (s2 := 0) (by decide +kernel) ?_ (by omega) (by omega)
  refine jT_iast (x := 0) (a := 1) (j := 5) (fs := []) (X := (((((((((((List.replicate 1792 0)).set 0 1)).set 1 0)).set 2 0)).set 3 0)).set 4 0)) (by rfl) (by rfl) (by rfl) (by rfl) (by rw [show List.length ((((((((((((List.replicate 1792 0)).set 0 1)).set 1 0)).set 2 0)).set 3 0)).set 4 0) : List Int) = 1792 from by rw [List.length_set, List.length_set, List.length_set, List.length_set, List.length_set]; exact (List.length_replicate)]; omega) ?_
  refine jT_eq (LN := [(3, (0, 5)), (0, (4, 0)), (1, (4, 1)), (2, (0, 0))]) (stN := []) (hsN := jpA_3759) rfl rfl rfl ?_
  refine jT_advK 12 (pcN := 36) (LN := [(3, (0, 6)), (0, (4, 0)), (1, (4, 1)), (2, (0, 0))]) (stN := [(0, 1), (0, 6), (4, 1)]) (hsN := jpA_3759) (c1 := 0) (s1 := 0) (c2 := 0) (s2 := 0) (by decide +kernel) ?_ (by omega) (by omega)
  refine jT_iast (x := 1) (a := 1) (j := 6) (fs := []) (X := (((((((((((((List.replicate 1792 0)).set 0 1)).set 1 0)).set 2 0)).set 3 0)).set 4 0)).set 5 0)) (by rfl) (by rfl) (by rfl) (by rfl) (by rw [show List.length ((((((((((((((List.replicate 1792 0)).set 0 1)).set 1 0)).set 2 0)).set 3 0)).set 4 0)).set 5 0) : List Int) = 1792 from by rw [List.length_set, List.length_set, List.length_set, List.length_set, List.length_set, List.length_set]; exact (List.length_replicate)]; omega) ?_
  refine jT_eq (LN := [(3, (0, 6)), (0, (4, 0)), (1, (4, 1)), (2, (0, 0))]) (stN := []) (hsN := jpA_3761) rfl rfl rfl ?_
  exact jT_ret rfl (by decide) (by show 16 ≤ 16; decide) (by omega) (by omega) ⟨rfl, rfl, rfl⟩
def jpA_3762 : List JC := [jzA_21, jgh, jgh, jgh, jgh, jgh, jgh, (101, [], [1, 0, 0, 0, 0, 0]), (100, [], (List.replicate 1792 0)), jgh, jgh, jgh, jgh, jgh, jgh, jgh]
def jpA_3763 : List JC := [jzA_21, jgh, jgh, jgh, jgh, jgh, jgh, (101, [], [1, 0, 0, 0, 0, 0]), jzA_3760, jgh, jgh, jgh, jgh, jgh, jgh, jgh]
def jpA_3764 : List JC := [jzA_1543, jgh, jgh, jgh, jgh, jgh, jgh, (101, [], [1, 0, 0, 0, 0, 0]), jzA_3760, jgh, jgh, jgh, jgh, jgh, jgh, jgh]
theorem jA_239_1017 {xs : List Int} {d : Nat} : jT xs (d + 1) 239 16 0 [(0, (4, 0))] [] jpA_3762 0 0 (fun k v hsN => k = 0 ∧ v = (9, 0) ∧ hsN = jpA_3764) := by
  refine jT_advK 28 (pcN := 103) (LN := [(2, (0, (-1))), (1, (0, 0)), (0, (4, 0))]) (stN := [(0, 0), (4, 8), (4, 0)]) (hsN := jpA_3762) (c1 := 0) (s1 := 0) (c2 := 0) (s2 := 0) (by decide +kernel) ?_ (by omega) (by omega)
  refine jT_fB [0, 8, 1, 2, 3, 4, 5, 6, 7, 9, 10, 11, 12, 13, 14, 15] 16 (y := 197) (pcN := 106) (dC := 0) (bc1 := 0) (bc2 := 0) (c1 := 0) (c2 := 0) (as := [(4, 0), (4, 8), (0, 0)]) (asC := [(4, 0), (4, 1), (0, 0)]) (LN := [(2, (0, (-1))), (1, (0, 0)), (0, (4, 0))]) (stN := []) (hsC := jpA_3747) (hsD := jpA_3761) (v := (9, 0)) (st2 := []) (hs2 := jpA_3763) (jA_197_1016 (d := 0)) (by rfl) (by rfl) (by decide +kernel) (by rfl) (by rfl) (by omega) (by omega) (by omega) (by omega) rfl (by decide +kernel) ?_
  refine jT_advK 6 (pcN := 116) (LN := [(2, (0, (-1))), (1, (0, 0)), (0, (4, 0))]) (stN := []) (hsN := jpA_3764) (c1 := 0) (s1 := 0) (c2 := 0) (s2 := 0) (by decide +kernel) ?_ (by omega) (by omega)
  exact jT_ret rfl (by decide) (by show 16 ≤ 16; decide) (by omega) (by omega) ⟨rfl, rfl, rfl⟩
def jpA_3765 : List JC := [jzA_21, (100, [], jS0), jgh, jgh, jgh, jgh, jgh, (101, [], [1, 0, 0, 0, 0, 0]), (100, [], (List.replicate 1792 0)), jgh, jgh, jgh, jgh, jgh, jgh, jgh]
def jpA_3766 : List JC := [jzA_1543, (100, [], jS0), jgh, jgh, jgh, jgh, jgh, (101, [], [1, 0, 0, 0, 0, 0]), jzA_3760, jgh, jgh, jgh, jgh, jgh, jgh, jgh]
theorem jA_282_1018 {xs : List Int} {d : Nat} : jT xs (d + 5) 282 16 0 [(0, (4, 0)), (1, (0, 0))] [] jpA_1840 0 0 (fun k v hsN => k = 0 ∧ v = (9, 0) ∧ hsN = jpA_3766) := by
  refine jT_advK 8 (pcN := 10) (LN := [(2, (0, 0)), (0, (4, 0)), (1, (0, 0))]) (stN := [(0, 0), (4, 0), (0, 0)]) (hsN := jpA_1840) (c1 := 0) (s1 := 0) (c2 := 0) (s2 := 0) (by decide +kernel) ?_ (by omega) (by omega)
  refine jT_fR [0, 1, 2, 3, 4, 5, 6, 7, 8, 9, 10, 11, 12, 13, 14, 15] 16 (y := 245) (pcN := 13) (dC := 0) (bc1 := 0) (bc2 := 0) (c1 := 0) (c2 := 0) (as := [(4, 0), (0, 0)]) (asC := [(4, 0), (0, 0)]) (LN := [(2, (0, 0)), (0, (4, 0)), (1, (0, 0))]) (stN := [(0, 0)]) (hsC := jpA_1519) (v := (0, 1)) (st2 := [(0, 1), (0, 0)]) (jA_245_339 (d := 0)) (by rfl) (by rfl) (by decide +kernel) (by rfl) (by rfl) (by omega) (by omega) (by omega) (by omega) rfl ?_
  refine jT_advK 4 (pcN := 19) (LN := [(2, (0, 0)), (0, (4, 0)), (1, (0, 0))]) (stN := [(0, 0), (0, 0), (4, 0)]) (hsN := jpA_1840) (c1 := 0) (s1 := 0) (c2 := 0) (s2 := 0) (by decide +kernel) ?_ (by omega) (by omega)
  refine jT_fB [0, 1, 2, 3, 4, 5, 6, 7, 8, 9, 10, 11, 12, 13, 14, 15] 16 (y := 280) (pcN := 22) (dC := 4) (bc1 := 0) (bc2 := 0) (c1 := 0) (c2 := 0) (as := [(4, 0), (0, 0), (0, 0)]) (asC := [(4, 0), (0, 0), (0, 0)]) (LN := [(2, (0, 0)), (0, (4, 0)), (1, (0, 0))]) (stN := []) (hsC := jpA_130) (hsD := jpA_3619) (v := (9, 0)) (st2 := []) (hs2 := jpA_3765) (jA_280_909 (d := 0)) (by rfl) (by rfl) (by decide +kernel) (by rfl) (by rfl) (by omega) (by omega) (by omega) (by omega) rfl (by decide +kernel) ?_
  refine jT_advK 1 (pcN := 23) (LN := [(2, (0, 0)), (0, (4, 0)), (1, (0, 0))]) (stN := [(4, 0)]) (hsN := jpA_3765) (c1 := 0) (s1 := 0) (c2 := 0) (s2 := 0) (by decide +kernel) ?_ (by omega) (by omega)
  refine jT_fB [0, 1, 2, 3, 4, 5, 6, 7, 8, 9, 10, 11, 12, 13, 14, 15] 16 (y := 239) (pcN := 26) (dC := 1) (bc1 := 0) (bc2 := 0) (c1 := 0) (c2 := 0) (as := [(4, 0)]) (asC := [(4, 0)]) (LN := [(2, (0, 0)), (0, (4, 0)), (1, (0, 0))]) (stN := []) (hsC := jpA_3762) (hsD := jpA_3764) (v := (9, 0)) (st2 := []) (hs2 := jpA_3766) (jA_239_1017 (d := 0)) (by rfl) (by rfl) (by decide +kernel) (by rfl) (by rfl) (by omega) (by omega) (by omega) (by omega) rfl (by decide +kernel) ?_
  refine jT_advK 5 (pcN := 10) (LN := [(2, (0, 1)), (0, (4, 0)), (1, (0, 0))]) (stN := [(0, 0), (4, 0), (0, 1)]) (hsN := jpA_3766) (c1 := 0) (s1 := 0) (c2 := 0) (s2 := 0) (by decide +kernel) ?_ (by omega) (by omega)
  refine jT_fR [0, 1, 2, 3, 4, 5, 6, 7, 8, 9, 10, 11, 12, 13, 14, 15] 16 (y := 245) (pcN := 13) (dC := 0) (bc1 := 0) (bc2 := 0) (c1 := 0) (c2 := 0) (as := [(4, 0), (0, 0)]) (asC := [(4, 0), (0, 0)]) (LN := [(2, (0, 1)), (0, (4, 0)), (1, (0, 0))]) (stN := [(0, 1)]) (hsC := jpA_1545) (v := (0, 1)) (st2 := [(0, 1), (0, 1)]) (jA_245_347 (d := 0)) (by rfl) (by rfl) (by decide +kernel) (by rfl) (by rfl) (by omega) (by omega) (by omega) (by omega) rfl ?_
  refine jT_advK 1 (pcN := 32) (LN := [(2, (0, 1)), (0, (4, 0)), (1, (0, 0))]) (stN := []) (hsN := jpA_3766) (c1 := 0) (s1 := 0) (c2 := 0) (s2 := 0) (by decide +kernel) ?_ (by omega) (by omega)
  exact jT_ret rfl (by decide) (by show 16 ≤ 16; decide) (by omega) (by omega) ⟨rfl, rfl, rfl⟩
theorem jA_281_1019 {xs : List Int} {d : Nat} : jT xs (d + 6) 281 16 0 [(0, (4, 0)), (1, (0, 0))] [] jpA_1840 0 0 (fun k v hsN => k = 0 ∧ v = (0, 1) ∧ hsN = jpA_3766) := by
  refine jT_advK 2 (pcN := 2) (LN := [(0, (4, 0)), (1, (0, 0))]) (stN := [(0, 0), (4, 0)]) (hsN := jpA_1840) (c1 := 0) (s1 := 0) (c2 := 0) (s2 := 0) (by decide +kernel) ?_ (by omega) (by omega)
  refine jT_fR [] 16 (y := 238) (pcN := 5) (dC := 1) (bc1 := 0) (bc2 := 0) (c1 := 0) (c2 := 0) (as := [(0, 0)]) (asC := [(0, 0)]) (LN := [(0, (4, 0)), (1, (0, 0))]) (stN := [(4, 0)]) (hsC := []) (v := (0, 1)) (st2 := [(0, 1), (4, 0)]) (jA_238_338 (d := 0)) (by rfl) (by rfl) (by decide +kernel) (by rfl) (by rfl) (by omega) (by omega) (by omega) (by omega) rfl ?_
  refine jT_fR [0, 1, 2, 3, 4, 5, 6, 7, 8, 9, 10, 11, 12, 13, 14, 15] 16 (y := 190) (pcN := 8) (dC := 1) (bc1 := 0) (bc2 := 0) (c1 := 0) (c2 := 0) (as := [(4, 0), (0, 1)]) (asC := [(4, 0), (0, 1)]) (LN := [(0, (4, 0)), (1, (0, 0))]) (stN := []) (hsC := jpA_22) (v := (0, 0)) (st2 := [(0, 0)]) (jA_190_39 (d := 0)) (by rfl) (by rfl) (by decide +kernel) (by rfl) (by rfl) (by omega) (by omega) (by omega) (by omega) rfl ?_
  refine jT_advK 3 (pcN := 15) (LN := [(0, (4, 0)), (1, (0, 0))]) (stN := [(0, 0), (4, 0)]) (hsN := jpA_1840) (c1 := 0) (s1 := 0) (c2 := 0) (s2 := 0) (by decide +kernel) ?_ (by omega) (by omega)
  refine jT_fB [0, 1, 2, 3, 4, 5, 6, 7, 8, 9, 10, 11, 12, 13, 14, 15] 16 (y := 282) (pcN := 18) (dC := 5) (bc1 := 0) (bc2 := 0) (c1 := 0) (c2 := 0) (as := [(4, 0), (0, 0)]) (asC := [(4, 0), (0, 0)]) (LN := [(0, (4, 0)), (1, (0, 0))]) (stN := []) (hsC := jpA_1840) (hsD := jpA_3766) (v := (9, 0)) (st2 := []) (hs2 := jpA_3766) (jA_282_1018 (d := 0)) (by rfl) (by rfl) (by decide +kernel) (by rfl) (by rfl) (by omega) (by omega) (by omega) (by omega) rfl (by decide +kernel) ?_
  refine jT_advK 2 (pcN := 22) (LN := [(0, (4, 0)), (1, (0, 0))]) (stN := [(0, 1)]) (hsN := jpA_3766) (c1 := 0) (s1 := 0) (c2 := 0) (s2 := 0) (by decide +kernel) ?_ (by omega) (by omega)
  exact jT_ret rfl (by decide) (by show 16 ≤ 16; decide) (by omega) (by omega) ⟨rfl, rfl, rfl⟩
def jpA_3767 : List JC := [jzA_1543, jgh, jgh, jgh, jgh, jgh, jgh, jgh, jgh, jgh, jgh, jgh, jgh, jgh, jgh, jgh]
theorem jA_186_1020 {xs : List Int} {d : Nat} : jT xs d 186 16 0 [(0, (4, 0))] [] jpA_3767 0 0 (fun k v hsN => k = 0 ∧ v = (0, 0) ∧ hsN = jpA_3767 ++ []) := by
  refine jT_advK 2 (pcN := 4) (LN := [(0, (4, 0))]) (stN := [(0, 0)]) (hsN := jpA_3767) (c1 := 0) (s1 := 0) (c2 := 0) (s2 := 0) (by decide +kernel) ?_ (by omega) (by omega)
  exact jT_ret rfl (by decide) (by show 16 ≤ 16; decide) (by omega) (by omega) ⟨rfl, rfl, rfl⟩
def jpA_3768 : List JC := [jzA_5, (8, [(4, 12), (4, 13)], []), jgh, jgh, jgh, jgh, jgh, jgh, jgh, jgh, jgh, jzA_640, jgh, (101, [], [0, 0, 0, 0, 0, 0]), jgh, (117, [], [19, 20, 21, 22]), jgh, jgh, jgh, jgh, (7, [(4, 23), (4, (-1)), (4, (-1))], []), jgh, jgh, (114, [], [24]), (4, [(4, 25), (1, 1)], []), (101, [], [0, 0, 0, 0, 0, 0])]
def jpA_3769 : List JC := [jzA_5, (8, [(4, 12), (4, 13)], []), jgh, jgh, jgh, jgh, jgh, jgh, jgh, jgh, jgh, jzA_640, jgh, (101, [], [0, 0, 0, 0, 0, 0]), jgh, (117, [], [19, 20, 21, 22]), jgh, jgh, jgh, jgh, (7, [(4, 23), (4, 27), (4, 32)], []), jgh, jgh, (114, [], [24]), (4, [(4, 25), (1, 1)], []), (101, [], [0, 0, 0, 0, 0, 0]), (114, [], [31]), (114, [], [31]), (101, [], [0, 0, 0, 0, 0, 0]), (4, [(4, 28), (1, 1)], []), (101, [], [1, 0, 0, 0, 0, 0]), (4, [(4, 30), (1, 1)], []), (100, [], [0])]
theorem jA_150_1021 {xs : List Int} {d : Nat} : jT xs (d + 6) 150 26 0 [(0, (4, 0)), (1, (0, 1))] [] jpA_3768 7 19 (fun k v hsN => k = 0 ∧ v = (0, 1) ∧ hsN = jpA_3769) := by
  refine jT_advK 3 (pcN := 3) (LN := [(0, (4, 0)), (1, (0, 1))]) (stN := [(0, 4), (0, 1), (4, 0)]) (hsN := jpA_3768) (c1 := 0) (s1 := 0) (c2 := 7) (s2 := 19) (by decide +kernel) ?_ (by omega) (by omega)
  refine jT_fR [0] 26 (y := 115) (pcN := 6) (dC := 0) (bc1 := 0) (bc2 := 0) (c1 := 7) (c2 := 19) (as := [(4, 0), (0, 1), (0, 4)]) (asC := [(4, 0), (0, 1), (0, 4)]) (LN := [(0, (4, 0)), (1, (0, 1))]) (stN := []) (hsC := [jgh]) (v := (9, 0)) (st2 := []) (jA_115_356 (d := 0)) (by rfl) (by rfl) (by decide +kernel) (by rfl) (by rfl) (by omega) (by omega) (by omega) (by omega) rfl ?_
  refine jT_advK 4 (pcN := 12) (LN := [(0, (4, 0)), (1, (0, 1))]) (stN := [(0, 1), (4, 11), (4, 0)]) (hsN := jpA_3768) (c1 := 0) (s1 := 0) (c2 := 7) (s2 := 19) (by decide +kernel) ?_ (by omega) (by omega)
  refine jT_fR [11, 14, 15, 16, 17, 18, 19, 20, 21, 22] 26 (y := 56) (pcN := 15) (dC := 0) (bc1 := 0) (bc2 := 0) (c1 := 7) (c2 := 19) (as := [(4, 11), (0, 1)]) (asC := [(4, 0), (0, 1)]) (LN := [(0, (4, 0)), (1, (0, 1))]) (stN := [(4, 0)]) (hsC := jpA_1446) (v := (4, 7)) (st2 := [(4, 20), (4, 0)]) (jA_56_357 (d := 0)) (by rfl) (by rfl) (by decide +kernel) (by rfl) (by rfl) (by omega) (by omega) (by omega) (by omega) rfl ?_
  refine jT_advK 2 (pcN := 19) (LN := [(0, (4, 0)), (1, (0, 1))]) (stN := [(4, 1), (4, 20), (4, 0)]) (hsN := jpA_3768) (c1 := 0) (s1 := 0) (c2 := 7) (s2 := 19) (by decide +kernel) ?_ (by omega) (by omega)
  refine jT_fB [20, 1, 23, 12, 13, 24, 25] 26 (y := 36) (pcN := 22) (dC := 5) (bc1 := 7) (bc2 := 19) (c1 := 0) (c2 := 0) (as := [(4, 20), (4, 1)]) (asC := [(4, 0), (4, 1)]) (LN := [(0, (4, 0)), (1, (0, 1))]) (stN := [(4, 0)]) (hsC := jpA_3741) (hsD := jpA_3740) (v := (4, 13)) (st2 := [(4, 32), (4, 0)]) (hs2 := jpA_3769) (jA_36_1012 (d := 0)) (by rfl) (by rfl) (by decide +kernel) (by rfl) (by rfl) (by omega) (by omega) (by omega) (by omega) rfl (by decide +kernel) ?_
  refine jT_fR [0, 32] 33 (y := 151) (pcN := 25) (dC := 0) (bc1 := 0) (bc2 := 0) (c1 := 0) (c2 := 0) (as := [(4, 0), (4, 32)]) (asC := [(4, 0), (4, 1)]) (LN := [(0, (4, 0)), (1, (0, 1))]) (stN := []) (hsC := [jgh, (100, [], [0])]) (v := (0, 0)) (st2 := [(0, 0)]) (jA_151_1013 (d := 0)) (by rfl) (by rfl) (by decide +kernel) (by rfl) (by rfl) (by omega) (by omega) (by omega) (by omega) rfl ?_
  refine jT_advK 2 (pcN := 27) (LN := [(0, (4, 0)), (1, (0, 1))]) (stN := [(0, 1)]) (hsN := jpA_3769) (c1 := 0) (s1 := 0) (c2 := 0) (s2 := 0) (by decide +kernel) ?_ (by omega) (by omega)
  exact jT_ret rfl (by decide) (by show 26 ≤ 33; decide) (by omega) (by omega) ⟨rfl, rfl, rfl⟩
def jpA_3770 : List JC := [jzA_14, (101, [], [0]), (8, [(4, 13), (4, 14)], []), jgh, jgh, jgh, jgh, jgh, jgh, jgh, jgh, jgh, jzA_659, jgh, (101, [], [0, 0, 0, 0, 0, 0]), jgh, (117, [], [20, 21, 22, 23]), jgh, jgh, jgh, jgh, (7, [(4, 24), (4, (-1)), (4, (-1))], []), jgh, jgh, (114, [], [25]), (4, [(4, 26), (1, 1)], []), (101, [], [0, 0, 0, 0, 0, 0])]
def jpA_3771 : List JC := [jzA_14, (101, [], [0]), (8, [(4, 13), (4, 14)], []), jgh, jgh, jgh, jgh, jgh, jgh, jgh, jgh, jgh, jzA_659, jgh, (101, [], [0, 0, 0, 0, 0, 0]), jgh, (117, [], [20, 21, 22, 23]), jgh, jgh, jgh, jgh, (7, [(4, 24), (4, 28), (4, 33)], []), jgh, jgh, (114, [], [25]), (4, [(4, 26), (1, 1)], []), (101, [], [0, 0, 0, 0, 0, 0]), (114, [], [32]), (114, [], [32]), (101, [], [0, 0, 0, 0, 0, 0]), (4, [(4, 29), (1, 1)], []), (101, [], [1, 0, 0, 0, 0, 0]), (4, [(4, 31), (1, 1)], []), (100, [], [0])]
def jpA_3772 : List JC := [jzA_14, (101, [], [1]), (8, [(4, 13), (4, 14)], []), jgh, jgh, jgh, jgh, jgh, jgh, jgh, jgh, jgh, jzA_659, jgh, (101, [], [0, 0, 0, 0, 0, 0]), jgh, (117, [], [20, 21, 22, 23]), jgh, jgh, jgh, jgh, (7, [(4, 24), (4, 28), (4, 33)], []), jgh, jgh, (114, [], [25]), (4, [(4, 26), (1, 1)], []), (101, [], [0, 0, 0, 0, 0, 0]), (114, [], [32]), (114, [], [32]), (101, [], [0, 0, 0, 0, 0, 0]), (4, [(4, 29), (1, 1)], []), (101, [], [1, 0, 0, 0, 0, 0]), (4, [(4, 31), (1, 1)], []), (100, [], [0])]
theorem jA_355_1022 {xs : List Int} {d : Nat} : jT xs (d + 7) 355 27 0 [(0, (4, 0)), (1, (0, 1)), (2, (4, 1))] [] jpA_3770 7 19 (fun k v hsN => k = 0 ∧ v = (0, 0) ∧ hsN = jpA_3772) := by
  refine jT_advK 4 (pcN := 4) (LN := [(0, (4, 0)), (1, (0, 1)), (2, (4, 1))]) (stN := [(0, 1), (4, 0), (0, 0), (4, 1)]) (hsN := jpA_3770) (c1 := 0) (s1 := 0) (c2 := 7) (s2 := 19) (by decide +kernel) ?_ (by omega) (by omega)
  refine jT_fB [0, 2, 3, 4, 5, 6, 7, 8, 9, 10, 11, 12, 13, 14, 15, 16, 17, 18, 19, 20, 21, 22, 23, 24, 25, 26] 27 (y := 150) (pcN := 7) (dC := 6) (bc1 := 7) (bc2 := 19) (c1 := 0) (c2 := 0) (as := [(4, 0), (0, 1)]) (asC := [(4, 0), (0, 1)]) (LN := [(0, (4, 0)), (1, (0, 1)), (2, (4, 1))]) (stN := [(0, 0), (4, 1)]) (hsC := jpA_3768) (hsD := jpA_3769) (v := (0, 1)) (st2 := [(0, 1), (0, 0), (4, 1)]) (hs2 := jpA_3771) (jA_150_1021 (d := 0)) (by rfl) (by rfl) (by decide +kernel) (by rfl) (by rfl) (by omega) (by omega) (by omega) (by omega) rfl (by decide +kernel) ?_
  refine jT_advK 4 (pcN := 16) (LN := [(0, (4, 0)), (1, (0, 1)), (2, (4, 1))]) (stN := [(0, 0)]) (hsN := jpA_3772) (c1 := 0) (s1 := 0) (c2 := 0) (s2 := 0) (by decide +kernel) ?_ (by omega) (by omega)
  exact jT_ret rfl (by decide) (by show 27 ≤ 34; decide) (by omega) (by omega) ⟨rfl, rfl, rfl⟩
theorem jA_282_1023 {xs : List Int} {d : Nat} : jT xs (d + 5) 282 16 0 [(0, (4, 0)), (1, (0, 1))] [] jpA_1840 0 0 (fun k v hsN => k = 0 ∧ v = (9, 0) ∧ hsN = jpA_3766) := by
  refine jT_advK 8 (pcN := 10) (LN := [(2, (0, 0)), (0, (4, 0)), (1, (0, 1))]) (stN := [(0, 1), (4, 0), (0, 0)]) (hsN := jpA_1840) (c1 := 0) (s1 := 0) (c2 := 0) (s2 := 0) (by decide +kernel) ?_ (by omega) (by omega)
  refine jT_fR [0, 1, 2, 3, 4, 5, 6, 7, 8, 9, 10, 11, 12, 13, 14, 15] 16 (y := 245) (pcN := 13) (dC := 0) (bc1 := 0) (bc2 := 0) (c1 := 0) (c2 := 0) (as := [(4, 0), (0, 1)]) (asC := [(4, 0), (0, 1)]) (LN := [(2, (0, 0)), (0, (4, 0)), (1, (0, 1))]) (stN := [(0, 0)]) (hsC := jpA_1519) (v := (0, 1)) (st2 := [(0, 1), (0, 0)]) (jA_245_363 (d := 0)) (by rfl) (by rfl) (by decide +kernel) (by rfl) (by rfl) (by omega) (by omega) (by omega) (by omega) rfl ?_
  refine jT_advK 4 (pcN := 19) (LN := [(2, (0, 0)), (0, (4, 0)), (1, (0, 1))]) (stN := [(0, 0), (0, 1), (4, 0)]) (hsN := jpA_1840) (c1 := 0) (s1 := 0) (c2 := 0) (s2 := 0) (by decide +kernel) ?_ (by omega) (by omega)
  refine jT_fB [0, 1, 2, 3, 4, 5, 6, 7, 8, 9, 10, 11, 12, 13, 14, 15] 16 (y := 280) (pcN := 22) (dC := 4) (bc1 := 0) (bc2 := 0) (c1 := 0) (c2 := 0) (as := [(4, 0), (0, 1), (0, 0)]) (asC := [(4, 0), (0, 1), (0, 0)]) (LN := [(2, (0, 0)), (0, (4, 0)), (1, (0, 1))]) (stN := []) (hsC := jpA_130) (hsD := jpA_3619) (v := (9, 0)) (st2 := []) (hs2 := jpA_3765) (jA_280_927 (d := 0)) (by rfl) (by rfl) (by decide +kernel) (by rfl) (by rfl) (by omega) (by omega) (by omega) (by omega) rfl (by decide +kernel) ?_
  refine jT_advK 1 (pcN := 23) (LN := [(2, (0, 0)), (0, (4, 0)), (1, (0, 1))]) (stN := [(4, 0)]) (hsN := jpA_3765) (c1 := 0) (s1 := 0) (c2 := 0) (s2 := 0) (by decide +kernel) ?_ (by omega) (by omega)
  refine jT_fB [0, 1, 2, 3, 4, 5, 6, 7, 8, 9, 10, 11, 12, 13, 14, 15] 16 (y := 239) (pcN := 26) (dC := 1) (bc1 := 0) (bc2 := 0) (c1 := 0) (c2 := 0) (as := [(4, 0)]) (asC := [(4, 0)]) (LN := [(2, (0, 0)), (0, (4, 0)), (1, (0, 1))]) (stN := []) (hsC := jpA_3762) (hsD := jpA_3764) (v := (9, 0)) (st2 := []) (hs2 := jpA_3766) (jA_239_1017 (d := 0)) (by rfl) (by rfl) (by decide +kernel) (by rfl) (by rfl) (by omega) (by omega) (by omega) (by omega) rfl (by decide +kernel) ?_
  refine jT_advK 5 (pcN := 10) (LN := [(2, (0, 1)), (0, (4, 0)), (1, (0, 1))]) (stN := [(0, 1), (4, 0), (0, 1)]) (hsN := jpA_3766) (c1 := 0) (s1 := 0) (c2 := 0) (s2 := 0) (by decide +kernel) ?_ (by omega) (by omega)
  refine jT_fR [0, 1, 2, 3, 4, 5, 6, 7, 8, 9, 10, 11, 12, 13, 14, 15] 16 (y := 245) (pcN := 13) (dC := 0) (bc1 := 0) (bc2 := 0) (c1 := 0) (c2 := 0) (as := [(4, 0), (0, 1)]) (asC := [(4, 0), (0, 1)]) (LN := [(2, (0, 1)), (0, (4, 0)), (1, (0, 1))]) (stN := [(0, 1)]) (hsC := jpA_1545) (v := (0, 1)) (st2 := [(0, 1), (0, 1)]) (jA_245_368 (d := 0)) (by rfl) (by rfl) (by decide +kernel) (by rfl) (by rfl) (by omega) (by omega) (by omega) (by omega) rfl ?_
  refine jT_advK 1 (pcN := 32) (LN := [(2, (0, 1)), (0, (4, 0)), (1, (0, 1))]) (stN := []) (hsN := jpA_3766) (c1 := 0) (s1 := 0) (c2 := 0) (s2 := 0) (by decide +kernel) ?_ (by omega) (by omega)
  exact jT_ret rfl (by decide) (by show 16 ≤ 16; decide) (by omega) (by omega) ⟨rfl, rfl, rfl⟩
theorem jA_281_1024 {xs : List Int} {d : Nat} : jT xs (d + 6) 281 16 0 [(0, (4, 0)), (1, (0, 1))] [] jpA_1840 0 0 (fun k v hsN => k = 0 ∧ v = (0, 1) ∧ hsN = jpA_3766) := by
  refine jT_advK 2 (pcN := 2) (LN := [(0, (4, 0)), (1, (0, 1))]) (stN := [(0, 1), (4, 0)]) (hsN := jpA_1840) (c1 := 0) (s1 := 0) (c2 := 0) (s2 := 0) (by decide +kernel) ?_ (by omega) (by omega)
  refine jT_fR [] 16 (y := 238) (pcN := 5) (dC := 1) (bc1 := 0) (bc2 := 0) (c1 := 0) (c2 := 0) (as := [(0, 1)]) (asC := [(0, 1)]) (LN := [(0, (4, 0)), (1, (0, 1))]) (stN := [(4, 0)]) (hsC := []) (v := (0, 1)) (st2 := [(0, 1), (4, 0)]) (jA_238_362 (d := 0)) (by rfl) (by rfl) (by decide +kernel) (by rfl) (by rfl) (by omega) (by omega) (by omega) (by omega) rfl ?_
  refine jT_fR [0, 1, 2, 3, 4, 5, 6, 7, 8, 9, 10, 11, 12, 13, 14, 15] 16 (y := 190) (pcN := 8) (dC := 1) (bc1 := 0) (bc2 := 0) (c1 := 0) (c2 := 0) (as := [(4, 0), (0, 1)]) (asC := [(4, 0), (0, 1)]) (LN := [(0, (4, 0)), (1, (0, 1))]) (stN := []) (hsC := jpA_22) (v := (0, 0)) (st2 := [(0, 0)]) (jA_190_39 (d := 0)) (by rfl) (by rfl) (by decide +kernel) (by rfl) (by rfl) (by omega) (by omega) (by omega) (by omega) rfl ?_
  refine jT_advK 3 (pcN := 15) (LN := [(0, (4, 0)), (1, (0, 1))]) (stN := [(0, 1), (4, 0)]) (hsN := jpA_1840) (c1 := 0) (s1 := 0) (c2 := 0) (s2 := 0) (by decide +kernel) ?_ (by omega) (by omega)
  refine jT_fB [0, 1, 2, 3, 4, 5, 6, 7, 8, 9, 10, 11, 12, 13, 14, 15] 16 (y := 282) (pcN := 18) (dC := 5) (bc1 := 0) (bc2 := 0) (c1 := 0) (c2 := 0) (as := [(4, 0), (0, 1)]) (asC := [(4, 0), (0, 1)]) (LN := [(0, (4, 0)), (1, (0, 1))]) (stN := []) (hsC := jpA_1840) (hsD := jpA_3766) (v := (9, 0)) (st2 := []) (hs2 := jpA_3766) (jA_282_1023 (d := 0)) (by rfl) (by rfl) (by decide +kernel) (by rfl) (by rfl) (by omega) (by omega) (by omega) (by omega) rfl (by decide +kernel) ?_
  refine jT_advK 2 (pcN := 22) (LN := [(0, (4, 0)), (1, (0, 1))]) (stN := [(0, 1)]) (hsN := jpA_3766) (c1 := 0) (s1 := 0) (c2 := 0) (s2 := 0) (by decide +kernel) ?_ (by omega) (by omega)
  exact jT_ret rfl (by decide) (by show 16 ≤ 16; decide) (by omega) (by omega) ⟨rfl, rfl, rfl⟩
def jpA_3773 : List JC := [jzA_5, (8, [(4, 12), (4, 13)], []), jgh, jgh, jgh, jgh, jgh, jgh, jgh, jgh, jgh, jzA_640, jgh, (101, [], [0, 0, 0, 0, 0, 0]), jgh, (117, [], [19, 20, 21, 22]), jgh, jgh, jgh, jgh, jgh, (7, [(4, 23), (4, (-1)), (4, (-1))], []), jgh, (114, [], [24]), (4, [(4, 25), (1, 1)], []), (101, [], [0, 0, 0, 0, 0, 0])]
def jpA_3774 : List JC := [jzA_5, (8, [(4, 12), (4, 13)], []), jgh, jgh, jgh, jgh, jgh, jgh, jgh, jgh, jgh, jzA_640, jgh, (101, [], [0, 0, 0, 0, 0, 0]), jgh, (117, [], [19, 20, 21, 22]), jgh, jgh, jgh, jgh, jgh, (7, [(4, 23), (4, 27), (4, 32)], []), jgh, (114, [], [24]), (4, [(4, 25), (1, 1)], []), (101, [], [0, 0, 0, 0, 0, 0]), (114, [], [31]), (114, [], [31]), (101, [], [0, 0, 0, 0, 0, 0]), (4, [(4, 28), (1, 1)], []), (101, [], [1, 0, 0, 0, 0, 0]), (4, [(4, 30), (1, 1)], []), (100, [], [0])]
theorem jA_150_1025 {xs : List Int} {d : Nat} : jT xs (d + 6) 150 26 0 [(0, (4, 0)), (1, (0, 2))] [] jpA_3773 7 19 (fun k v hsN => k = 0 ∧ v = (0, 1) ∧ hsN = jpA_3774) := by
  refine jT_advK 3 (pcN := 3) (LN := [(0, (4, 0)), (1, (0, 2))]) (stN := [(0, 4), (0, 2), (4, 0)]) (hsN := jpA_3773) (c1 := 0) (s1 := 0) (c2 := 7) (s2 := 19) (by decide +kernel) ?_ (by omega) (by omega)
  refine jT_fR [0] 26 (y := 115) (pcN := 6) (dC := 0) (bc1 := 0) (bc2 := 0) (c1 := 7) (c2 := 19) (as := [(4, 0), (0, 2), (0, 4)]) (asC := [(4, 0), (0, 2), (0, 4)]) (LN := [(0, (4, 0)), (1, (0, 2))]) (stN := []) (hsC := [jgh]) (v := (9, 0)) (st2 := []) (jA_115_372 (d := 0)) (by rfl) (by rfl) (by decide +kernel) (by rfl) (by rfl) (by omega) (by omega) (by omega) (by omega) rfl ?_
  refine jT_advK 4 (pcN := 12) (LN := [(0, (4, 0)), (1, (0, 2))]) (stN := [(0, 2), (4, 11), (4, 0)]) (hsN := jpA_3773) (c1 := 0) (s1 := 0) (c2 := 7) (s2 := 19) (by decide +kernel) ?_ (by omega) (by omega)
  refine jT_fR [11, 14, 15, 16, 17, 18, 19, 20, 21, 22] 26 (y := 56) (pcN := 15) (dC := 0) (bc1 := 0) (bc2 := 0) (c1 := 7) (c2 := 19) (as := [(4, 11), (0, 2)]) (asC := [(4, 0), (0, 2)]) (LN := [(0, (4, 0)), (1, (0, 2))]) (stN := [(4, 0)]) (hsC := jpA_1446) (v := (4, 8)) (st2 := [(4, 21), (4, 0)]) (jA_56_373 (d := 0)) (by rfl) (by rfl) (by decide +kernel) (by rfl) (by rfl) (by omega) (by omega) (by omega) (by omega) rfl ?_
  refine jT_advK 2 (pcN := 19) (LN := [(0, (4, 0)), (1, (0, 2))]) (stN := [(4, 1), (4, 21), (4, 0)]) (hsN := jpA_3773) (c1 := 0) (s1 := 0) (c2 := 7) (s2 := 19) (by decide +kernel) ?_ (by omega) (by omega)
  refine jT_fB [21, 1, 23, 12, 13, 24, 25] 26 (y := 36) (pcN := 22) (dC := 5) (bc1 := 7) (bc2 := 19) (c1 := 0) (c2 := 0) (as := [(4, 21), (4, 1)]) (asC := [(4, 0), (4, 1)]) (LN := [(0, (4, 0)), (1, (0, 2))]) (stN := [(4, 0)]) (hsC := jpA_3741) (hsD := jpA_3740) (v := (4, 13)) (st2 := [(4, 32), (4, 0)]) (hs2 := jpA_3774) (jA_36_1012 (d := 0)) (by rfl) (by rfl) (by decide +kernel) (by rfl) (by rfl) (by omega) (by omega) (by omega) (by omega) rfl (by decide +kernel) ?_
  refine jT_fR [0, 32] 33 (y := 151) (pcN := 25) (dC := 0) (bc1 := 0) (bc2 := 0) (c1 := 0) (c2 := 0) (as := [(4, 0), (4, 32)]) (asC := [(4, 0), (4, 1)]) (LN := [(0, (4, 0)), (1, (0, 2))]) (stN := []) (hsC := [jgh, (100, [], [0])]) (v := (0, 0)) (st2 := [(0, 0)]) (jA_151_1013 (d := 0)) (by rfl) (by rfl) (by decide +kernel) (by rfl) (by rfl) (by omega) (by omega) (by omega) (by omega) rfl ?_
  refine jT_advK 2 (pcN := 27) (LN := [(0, (4, 0)), (1, (0, 2))]) (stN := [(0, 1)]) (hsN := jpA_3774) (c1 := 0) (s1 := 0) (c2 := 0) (s2 := 0) (by decide +kernel) ?_ (by omega) (by omega)
  exact jT_ret rfl (by decide) (by show 26 ≤ 33; decide) (by omega) (by omega) ⟨rfl, rfl, rfl⟩
def jpA_3775 : List JC := [jzA_14, (101, [], [0]), (8, [(4, 13), (4, 14)], []), jgh, jgh, jgh, jgh, jgh, jgh, jgh, jgh, jgh, jzA_659, jgh, (101, [], [0, 0, 0, 0, 0, 0]), jgh, (117, [], [20, 21, 22, 23]), jgh, jgh, jgh, jgh, jgh, (7, [(4, 24), (4, (-1)), (4, (-1))], []), jgh, (114, [], [25]), (4, [(4, 26), (1, 1)], []), (101, [], [0, 0, 0, 0, 0, 0])]
def jpA_3776 : List JC := [jzA_14, (101, [], [0]), (8, [(4, 13), (4, 14)], []), jgh, jgh, jgh, jgh, jgh, jgh, jgh, jgh, jgh, jzA_659, jgh, (101, [], [0, 0, 0, 0, 0, 0]), jgh, (117, [], [20, 21, 22, 23]), jgh, jgh, jgh, jgh, jgh, (7, [(4, 24), (4, 28), (4, 33)], []), jgh, (114, [], [25]), (4, [(4, 26), (1, 1)], []), (101, [], [0, 0, 0, 0, 0, 0]), (114, [], [32]), (114, [], [32]), (101, [], [0, 0, 0, 0, 0, 0]), (4, [(4, 29), (1, 1)], []), (101, [], [1, 0, 0, 0, 0, 0]), (4, [(4, 31), (1, 1)], []), (100, [], [0])]
def jpA_3777 : List JC := [jzA_14, (101, [], [1]), (8, [(4, 13), (4, 14)], []), jgh, jgh, jgh, jgh, jgh, jgh, jgh, jgh, jgh, jzA_659, jgh, (101, [], [0, 0, 0, 0, 0, 0]), jgh, (117, [], [20, 21, 22, 23]), jgh, jgh, jgh, jgh, jgh, (7, [(4, 24), (4, 28), (4, 33)], []), jgh, (114, [], [25]), (4, [(4, 26), (1, 1)], []), (101, [], [0, 0, 0, 0, 0, 0]), (114, [], [32]), (114, [], [32]), (101, [], [0, 0, 0, 0, 0, 0]), (4, [(4, 29), (1, 1)], []), (101, [], [1, 0, 0, 0, 0, 0]), (4, [(4, 31), (1, 1)], []), (100, [], [0])]
theorem jA_355_1026 {xs : List Int} {d : Nat} : jT xs (d + 7) 355 27 0 [(0, (4, 0)), (1, (0, 2)), (2, (4, 1))] [] jpA_3775 7 19 (fun k v hsN => k = 0 ∧ v = (0, 0) ∧ hsN = jpA_3777) := by
  refine jT_advK 4 (pcN := 4) (LN := [(0, (4, 0)), (1, (0, 2)), (2, (4, 1))]) (stN := [(0, 2), (4, 0), (0, 0), (4, 1)]) (hsN := jpA_3775) (c1 := 0) (s1 := 0) (c2 := 7) (s2 := 19) (by decide +kernel) ?_ (by omega) (by omega)
  refine jT_fB [0, 2, 3, 4, 5, 6, 7, 8, 9, 10, 11, 12, 13, 14, 15, 16, 17, 18, 19, 20, 21, 22, 23, 24, 25, 26] 27 (y := 150) (pcN := 7) (dC := 6) (bc1 := 7) (bc2 := 19) (c1 := 0) (c2 := 0) (as := [(4, 0), (0, 2)]) (asC := [(4, 0), (0, 2)]) (LN := [(0, (4, 0)), (1, (0, 2)), (2, (4, 1))]) (stN := [(0, 0), (4, 1)]) (hsC := jpA_3773) (hsD := jpA_3774) (v := (0, 1)) (st2 := [(0, 1), (0, 0), (4, 1)]) (hs2 := jpA_3776) (jA_150_1025 (d := 0)) (by rfl) (by rfl) (by decide +kernel) (by rfl) (by rfl) (by omega) (by omega) (by omega) (by omega) rfl (by decide +kernel) ?_
  refine jT_advK 4 (pcN := 16) (LN := [(0, (4, 0)), (1, (0, 2)), (2, (4, 1))]) (stN := [(0, 0)]) (hsN := jpA_3777) (c1 := 0) (s1 := 0) (c2 := 0) (s2 := 0) (by decide +kernel) ?_ (by omega) (by omega)
  exact jT_ret rfl (by decide) (by show 27 ≤ 34; decide) (by omega) (by omega) ⟨rfl, rfl, rfl⟩
theorem jA_282_1027 {xs : List Int} {d : Nat} : jT xs (d + 5) 282 16 0 [(0, (4, 0)), (1, (0, 2))] [] jpA_1840 0 0 (fun k v hsN => k = 0 ∧ v = (9, 0) ∧ hsN = jpA_3766) := by
  refine jT_advK 8 (pcN := 10) (LN := [(2, (0, 0)), (0, (4, 0)), (1, (0, 2))]) (stN := [(0, 2), (4, 0), (0, 0)]) (hsN := jpA_1840) (c1 := 0) (s1 := 0) (c2 := 0) (s2 := 0) (by decide +kernel) ?_ (by omega) (by omega)
  refine jT_fR [0, 1, 2, 3, 4, 5, 6, 7, 8, 9, 10, 11, 12, 13, 14, 15] 16 (y := 245) (pcN := 13) (dC := 0) (bc1 := 0) (bc2 := 0) (c1 := 0) (c2 := 0) (as := [(4, 0), (0, 2)]) (asC := [(4, 0), (0, 2)]) (LN := [(2, (0, 0)), (0, (4, 0)), (1, (0, 2))]) (stN := [(0, 0)]) (hsC := jpA_1519) (v := (0, 1)) (st2 := [(0, 1), (0, 0)]) (jA_245_379 (d := 0)) (by rfl) (by rfl) (by decide +kernel) (by rfl) (by rfl) (by omega) (by omega) (by omega) (by omega) rfl ?_
  refine jT_advK 4 (pcN := 19) (LN := [(2, (0, 0)), (0, (4, 0)), (1, (0, 2))]) (stN := [(0, 0), (0, 2), (4, 0)]) (hsN := jpA_1840) (c1 := 0) (s1 := 0) (c2 := 0) (s2 := 0) (by decide +kernel) ?_ (by omega) (by omega)
  refine jT_fB [0, 1, 2, 3, 4, 5, 6, 7, 8, 9, 10, 11, 12, 13, 14, 15] 16 (y := 280) (pcN := 22) (dC := 4) (bc1 := 0) (bc2 := 0) (c1 := 0) (c2 := 0) (as := [(4, 0), (0, 2), (0, 0)]) (asC := [(4, 0), (0, 2), (0, 0)]) (LN := [(2, (0, 0)), (0, (4, 0)), (1, (0, 2))]) (stN := []) (hsC := jpA_130) (hsD := jpA_3619) (v := (9, 0)) (st2 := []) (hs2 := jpA_3765) (jA_280_938 (d := 0)) (by rfl) (by rfl) (by decide +kernel) (by rfl) (by rfl) (by omega) (by omega) (by omega) (by omega) rfl (by decide +kernel) ?_
  refine jT_advK 1 (pcN := 23) (LN := [(2, (0, 0)), (0, (4, 0)), (1, (0, 2))]) (stN := [(4, 0)]) (hsN := jpA_3765) (c1 := 0) (s1 := 0) (c2 := 0) (s2 := 0) (by decide +kernel) ?_ (by omega) (by omega)
  refine jT_fB [0, 1, 2, 3, 4, 5, 6, 7, 8, 9, 10, 11, 12, 13, 14, 15] 16 (y := 239) (pcN := 26) (dC := 1) (bc1 := 0) (bc2 := 0) (c1 := 0) (c2 := 0) (as := [(4, 0)]) (asC := [(4, 0)]) (LN := [(2, (0, 0)), (0, (4, 0)), (1, (0, 2))]) (stN := []) (hsC := jpA_3762) (hsD := jpA_3764) (v := (9, 0)) (st2 := []) (hs2 := jpA_3766) (jA_239_1017 (d := 0)) (by rfl) (by rfl) (by decide +kernel) (by rfl) (by rfl) (by omega) (by omega) (by omega) (by omega) rfl (by decide +kernel) ?_
  refine jT_advK 5 (pcN := 10) (LN := [(2, (0, 1)), (0, (4, 0)), (1, (0, 2))]) (stN := [(0, 2), (4, 0), (0, 1)]) (hsN := jpA_3766) (c1 := 0) (s1 := 0) (c2 := 0) (s2 := 0) (by decide +kernel) ?_ (by omega) (by omega)
  refine jT_fR [0, 1, 2, 3, 4, 5, 6, 7, 8, 9, 10, 11, 12, 13, 14, 15] 16 (y := 245) (pcN := 13) (dC := 0) (bc1 := 0) (bc2 := 0) (c1 := 0) (c2 := 0) (as := [(4, 0), (0, 2)]) (asC := [(4, 0), (0, 2)]) (LN := [(2, (0, 1)), (0, (4, 0)), (1, (0, 2))]) (stN := [(0, 1)]) (hsC := jpA_1545) (v := (0, 1)) (st2 := [(0, 1), (0, 1)]) (jA_245_384 (d := 0)) (by rfl) (by rfl) (by decide +kernel) (by rfl) (by rfl) (by omega) (by omega) (by omega) (by omega) rfl ?_
  refine jT_advK 1 (pcN := 32) (LN := [(2, (0, 1)), (0, (4, 0)), (1, (0, 2))]) (stN := []) (hsN := jpA_3766) (c1 := 0) (s1 := 0) (c2 := 0) (s2 := 0) (by decide +kernel) ?_ (by omega) (by omega)
  exact jT_ret rfl (by decide) (by show 16 ≤ 16; decide) (by omega) (by omega) ⟨rfl, rfl, rfl⟩
theorem jA_281_1028 {xs : List Int} {d : Nat} : jT xs (d + 6) 281 16 0 [(0, (4, 0)), (1, (0, 2))] [] jpA_1840 0 0 (fun k v hsN => k = 0 ∧ v = (0, 1) ∧ hsN = jpA_3766) := by
  refine jT_advK 2 (pcN := 2) (LN := [(0, (4, 0)), (1, (0, 2))]) (stN := [(0, 2), (4, 0)]) (hsN := jpA_1840) (c1 := 0) (s1 := 0) (c2 := 0) (s2 := 0) (by decide +kernel) ?_ (by omega) (by omega)
  refine jT_fR [] 16 (y := 238) (pcN := 5) (dC := 1) (bc1 := 0) (bc2 := 0) (c1 := 0) (c2 := 0) (as := [(0, 2)]) (asC := [(0, 2)]) (LN := [(0, (4, 0)), (1, (0, 2))]) (stN := [(4, 0)]) (hsC := []) (v := (0, 1)) (st2 := [(0, 1), (4, 0)]) (jA_238_378 (d := 0)) (by rfl) (by rfl) (by decide +kernel) (by rfl) (by rfl) (by omega) (by omega) (by omega) (by omega) rfl ?_
  refine jT_fR [0, 1, 2, 3, 4, 5, 6, 7, 8, 9, 10, 11, 12, 13, 14, 15] 16 (y := 190) (pcN := 8) (dC := 1) (bc1 := 0) (bc2 := 0) (c1 := 0) (c2 := 0) (as := [(4, 0), (0, 1)]) (asC := [(4, 0), (0, 1)]) (LN := [(0, (4, 0)), (1, (0, 2))]) (stN := []) (hsC := jpA_22) (v := (0, 0)) (st2 := [(0, 0)]) (jA_190_39 (d := 0)) (by rfl) (by rfl) (by decide +kernel) (by rfl) (by rfl) (by omega) (by omega) (by omega) (by omega) rfl ?_
  refine jT_advK 3 (pcN := 15) (LN := [(0, (4, 0)), (1, (0, 2))]) (stN := [(0, 2), (4, 0)]) (hsN := jpA_1840) (c1 := 0) (s1 := 0) (c2 := 0) (s2 := 0) (by decide +kernel) ?_ (by omega) (by omega)
  refine jT_fB [0, 1, 2, 3, 4, 5, 6, 7, 8, 9, 10, 11, 12, 13, 14, 15] 16 (y := 282) (pcN := 18) (dC := 5) (bc1 := 0) (bc2 := 0) (c1 := 0) (c2 := 0) (as := [(4, 0), (0, 2)]) (asC := [(4, 0), (0, 2)]) (LN := [(0, (4, 0)), (1, (0, 2))]) (stN := []) (hsC := jpA_1840) (hsD := jpA_3766) (v := (9, 0)) (st2 := []) (hs2 := jpA_3766) (jA_282_1027 (d := 0)) (by rfl) (by rfl) (by decide +kernel) (by rfl) (by rfl) (by omega) (by omega) (by omega) (by omega) rfl (by decide +kernel) ?_
  refine jT_advK 2 (pcN := 22) (LN := [(0, (4, 0)), (1, (0, 2))]) (stN := [(0, 1)]) (hsN := jpA_3766) (c1 := 0) (s1 := 0) (c2 := 0) (s2 := 0) (by decide +kernel) ?_ (by omega) (by omega)
  exact jT_ret rfl (by decide) (by show 16 ≤ 16; decide) (by omega) (by omega) ⟨rfl, rfl, rfl⟩
def jpA_3778 : List JC := [jzA_5, (8, [(4, 12), (4, 13)], []), jgh, jgh, jgh, jgh, jgh, jgh, jgh, jgh, jgh, jzA_640, jgh, (101, [], [0, 0, 0, 0, 0, 0]), jgh, (117, [], [19, 20, 21, 22]), jgh, jgh, jgh, jgh, jgh, jgh, (7, [(4, 23), (4, (-1)), (4, (-1))], []), (114, [], [24]), (4, [(4, 25), (1, 1)], []), (101, [], [0, 0, 0, 0, 0, 0])]
def jpA_3779 : List JC := [jzA_5, (8, [(4, 12), (4, 13)], []), jgh, jgh, jgh, jgh, jgh, jgh, jgh, jgh, jgh, jzA_640, jgh, (101, [], [0, 0, 0, 0, 0, 0]), jgh, (117, [], [19, 20, 21, 22]), jgh, jgh, jgh, jgh, jgh, jgh, (7, [(4, 23), (4, 27), (4, 32)], []), (114, [], [24]), (4, [(4, 25), (1, 1)], []), (101, [], [0, 0, 0, 0, 0, 0]), (114, [], [31]), (114, [], [31]), (101, [], [0, 0, 0, 0, 0, 0]), (4, [(4, 28), (1, 1)], []), (101, [], [1, 0, 0, 0, 0, 0]), (4, [(4, 30), (1, 1)], []), (100, [], [0])]
theorem jA_150_1029 {xs : List Int} {d : Nat} : jT xs (d + 6) 150 26 0 [(0, (4, 0)), (1, (0, 3))] [] jpA_3778 7 19 (fun k v hsN => k = 0 ∧ v = (0, 1) ∧ hsN = jpA_3779) := by
  refine jT_advK 3 (pcN := 3) (LN := [(0, (4, 0)), (1, (0, 3))]) (stN := [(0, 4), (0, 3), (4, 0)]) (hsN := jpA_3778) (c1 := 0) (s1 := 0) (c2 := 7) (s2 := 19) (by decide +kernel) ?_ (by omega) (by omega)
  refine jT_fR [0] 26 (y := 115) (pcN := 6) (dC := 0) (bc1 := 0) (bc2 := 0) (c1 := 7) (c2 := 19) (as := [(4, 0), (0, 3), (0, 4)]) (asC := [(4, 0), (0, 3), (0, 4)]) (LN := [(0, (4, 0)), (1, (0, 3))]) (stN := []) (hsC := [jgh]) (v := (9, 0)) (st2 := []) (jA_115_387 (d := 0)) (by rfl) (by rfl) (by decide +kernel) (by rfl) (by rfl) (by omega) (by omega) (by omega) (by omega) rfl ?_
  refine jT_advK 4 (pcN := 12) (LN := [(0, (4, 0)), (1, (0, 3))]) (stN := [(0, 3), (4, 11), (4, 0)]) (hsN := jpA_3778) (c1 := 0) (s1 := 0) (c2 := 7) (s2 := 19) (by decide +kernel) ?_ (by omega) (by omega)
  refine jT_fR [11, 14, 15, 16, 17, 18, 19, 20, 21, 22] 26 (y := 56) (pcN := 15) (dC := 0) (bc1 := 0) (bc2 := 0) (c1 := 7) (c2 := 19) (as := [(4, 11), (0, 3)]) (asC := [(4, 0), (0, 3)]) (LN := [(0, (4, 0)), (1, (0, 3))]) (stN := [(4, 0)]) (hsC := jpA_1446) (v := (4, 9)) (st2 := [(4, 22), (4, 0)]) (jA_56_388 (d := 0)) (by rfl) (by rfl) (by decide +kernel) (by rfl) (by rfl) (by omega) (by omega) (by omega) (by omega) rfl ?_
  refine jT_advK 2 (pcN := 19) (LN := [(0, (4, 0)), (1, (0, 3))]) (stN := [(4, 1), (4, 22), (4, 0)]) (hsN := jpA_3778) (c1 := 0) (s1 := 0) (c2 := 7) (s2 := 19) (by decide +kernel) ?_ (by omega) (by omega)
  refine jT_fB [22, 1, 23, 12, 13, 24, 25] 26 (y := 36) (pcN := 22) (dC := 5) (bc1 := 7) (bc2 := 19) (c1 := 0) (c2 := 0) (as := [(4, 22), (4, 1)]) (asC := [(4, 0), (4, 1)]) (LN := [(0, (4, 0)), (1, (0, 3))]) (stN := [(4, 0)]) (hsC := jpA_3741) (hsD := jpA_3740) (v := (4, 13)) (st2 := [(4, 32), (4, 0)]) (hs2 := jpA_3779) (jA_36_1012 (d := 0)) (by rfl) (by rfl) (by decide +kernel) (by rfl) (by rfl) (by omega) (by omega) (by omega) (by omega) rfl (by decide +kernel) ?_
  refine jT_fR [0, 32] 33 (y := 151) (pcN := 25) (dC := 0) (bc1 := 0) (bc2 := 0) (c1 := 0) (c2 := 0) (as := [(4, 0), (4, 32)]) (asC := [(4, 0), (4, 1)]) (LN := [(0, (4, 0)), (1, (0, 3))]) (stN := []) (hsC := [jgh, (100, [], [0])]) (v := (0, 0)) (st2 := [(0, 0)]) (jA_151_1013 (d := 0)) (by rfl) (by rfl) (by decide +kernel) (by rfl) (by rfl) (by omega) (by omega) (by omega) (by omega) rfl ?_
  refine jT_advK 2 (pcN := 27) (LN := [(0, (4, 0)), (1, (0, 3))]) (stN := [(0, 1)]) (hsN := jpA_3779) (c1 := 0) (s1 := 0) (c2 := 0) (s2 := 0) (by decide +kernel) ?_ (by omega) (by omega)
  exact jT_ret rfl (by decide) (by show 26 ≤ 33; decide) (by omega) (by omega) ⟨rfl, rfl, rfl⟩
def jpA_3780 : List JC := [jzA_14, (101, [], [0]), (8, [(4, 13), (4, 14)], []), jgh, jgh, jgh, jgh, jgh, jgh, jgh, jgh, jgh, jzA_659, jgh, (101, [], [0, 0, 0, 0, 0, 0]), jgh, (117, [], [20, 21, 22, 23]), jgh, jgh, jgh, jgh, jgh, jgh, (7, [(4, 24), (4, (-1)), (4, (-1))], []), (114, [], [25]), (4, [(4, 26), (1, 1)], []), (101, [], [0, 0, 0, 0, 0, 0])]
def jpA_3781 : List JC := [jzA_14, (101, [], [0]), (8, [(4, 13), (4, 14)], []), jgh, jgh, jgh, jgh, jgh, jgh, jgh, jgh, jgh, jzA_659, jgh, (101, [], [0, 0, 0, 0, 0, 0]), jgh, (117, [], [20, 21, 22, 23]), jgh, jgh, jgh, jgh, jgh, jgh, (7, [(4, 24), (4, 28), (4, 33)], []), (114, [], [25]), (4, [(4, 26), (1, 1)], []), (101, [], [0, 0, 0, 0, 0, 0]), (114, [], [32]), (114, [], [32]), (101, [], [0, 0, 0, 0, 0, 0]), (4, [(4, 29), (1, 1)], []), (101, [], [1, 0, 0, 0, 0, 0]), (4, [(4, 31), (1, 1)], []), (100, [], [0])]
def jpA_3782 : List JC := [jzA_14, (101, [], [1]), (8, [(4, 13), (4, 14)], []), jgh, jgh, jgh, jgh, jgh, jgh, jgh, jgh, jgh, jzA_659, jgh, (101, [], [0, 0, 0, 0, 0, 0]), jgh, (117, [], [20, 21, 22, 23]), jgh, jgh, jgh, jgh, jgh, jgh, (7, [(4, 24), (4, 28), (4, 33)], []), (114, [], [25]), (4, [(4, 26), (1, 1)], []), (101, [], [0, 0, 0, 0, 0, 0]), (114, [], [32]), (114, [], [32]), (101, [], [0, 0, 0, 0, 0, 0]), (4, [(4, 29), (1, 1)], []), (101, [], [1, 0, 0, 0, 0, 0]), (4, [(4, 31), (1, 1)], []), (100, [], [0])]
theorem jA_355_1030 {xs : List Int} {d : Nat} : jT xs (d + 7) 355 27 0 [(0, (4, 0)), (1, (0, 3)), (2, (4, 1))] [] jpA_3780 7 19 (fun k v hsN => k = 0 ∧ v = (0, 0) ∧ hsN = jpA_3782) := by
  refine jT_advK 4 (pcN := 4) (LN := [(0, (4, 0)), (1, (0, 3)), (2, (4, 1))]) (stN := [(0, 3), (4, 0), (0, 0), (4, 1)]) (hsN := jpA_3780) (c1 := 0) (s1 := 0) (c2 := 7) (s2 := 19) (by decide +kernel) ?_ (by omega) (by omega)
  refine jT_fB [0, 2, 3, 4, 5, 6, 7, 8, 9, 10, 11, 12, 13, 14, 15, 16, 17, 18, 19, 20, 21, 22, 23, 24, 25, 26] 27 (y := 150) (pcN := 7) (dC := 6) (bc1 := 7) (bc2 := 19) (c1 := 0) (c2 := 0) (as := [(4, 0), (0, 3)]) (asC := [(4, 0), (0, 3)]) (LN := [(0, (4, 0)), (1, (0, 3)), (2, (4, 1))]) (stN := [(0, 0), (4, 1)]) (hsC := jpA_3778) (hsD := jpA_3779) (v := (0, 1)) (st2 := [(0, 1), (0, 0), (4, 1)]) (hs2 := jpA_3781) (jA_150_1029 (d := 0)) (by rfl) (by rfl) (by decide +kernel) (by rfl) (by rfl) (by omega) (by omega) (by omega) (by omega) rfl (by decide +kernel) ?_
  refine jT_advK 4 (pcN := 16) (LN := [(0, (4, 0)), (1, (0, 3)), (2, (4, 1))]) (stN := [(0, 0)]) (hsN := jpA_3782) (c1 := 0) (s1 := 0) (c2 := 0) (s2 := 0) (by decide +kernel) ?_ (by omega) (by omega)
  exact jT_ret rfl (by decide) (by show 27 ≤ 34; decide) (by omega) (by omega) ⟨rfl, rfl, rfl⟩
theorem jA_282_1031 {xs : List Int} {d : Nat} : jT xs (d + 5) 282 16 0 [(0, (4, 0)), (1, (0, 3))] [] jpA_1840 0 0 (fun k v hsN => k = 0 ∧ v = (9, 0) ∧ hsN = jpA_3766) := by
  refine jT_advK 8 (pcN := 10) (LN := [(2, (0, 0)), (0, (4, 0)), (1, (0, 3))]) (stN := [(0, 3), (4, 0), (0, 0)]) (hsN := jpA_1840) (c1 := 0) (s1 := 0) (c2 := 0) (s2 := 0) (by decide +kernel) ?_ (by omega) (by omega)
  refine jT_fR [0, 1, 2, 3, 4, 5, 6, 7, 8, 9, 10, 11, 12, 13, 14, 15] 16 (y := 245) (pcN := 13) (dC := 0) (bc1 := 0) (bc2 := 0) (c1 := 0) (c2 := 0) (as := [(4, 0), (0, 3)]) (asC := [(4, 0), (0, 3)]) (LN := [(2, (0, 0)), (0, (4, 0)), (1, (0, 3))]) (stN := [(0, 0)]) (hsC := jpA_1519) (v := (0, 1)) (st2 := [(0, 1), (0, 0)]) (jA_245_394 (d := 0)) (by rfl) (by rfl) (by decide +kernel) (by rfl) (by rfl) (by omega) (by omega) (by omega) (by omega) rfl ?_
  refine jT_advK 4 (pcN := 19) (LN := [(2, (0, 0)), (0, (4, 0)), (1, (0, 3))]) (stN := [(0, 0), (0, 3), (4, 0)]) (hsN := jpA_1840) (c1 := 0) (s1 := 0) (c2 := 0) (s2 := 0) (by decide +kernel) ?_ (by omega) (by omega)
  refine jT_fB [0, 1, 2, 3, 4, 5, 6, 7, 8, 9, 10, 11, 12, 13, 14, 15] 16 (y := 280) (pcN := 22) (dC := 4) (bc1 := 0) (bc2 := 0) (c1 := 0) (c2 := 0) (as := [(4, 0), (0, 3), (0, 0)]) (asC := [(4, 0), (0, 3), (0, 0)]) (LN := [(2, (0, 0)), (0, (4, 0)), (1, (0, 3))]) (stN := []) (hsC := jpA_130) (hsD := jpA_3619) (v := (9, 0)) (st2 := []) (hs2 := jpA_3765) (jA_280_949 (d := 0)) (by rfl) (by rfl) (by decide +kernel) (by rfl) (by rfl) (by omega) (by omega) (by omega) (by omega) rfl (by decide +kernel) ?_
  refine jT_advK 1 (pcN := 23) (LN := [(2, (0, 0)), (0, (4, 0)), (1, (0, 3))]) (stN := [(4, 0)]) (hsN := jpA_3765) (c1 := 0) (s1 := 0) (c2 := 0) (s2 := 0) (by decide +kernel) ?_ (by omega) (by omega)
  refine jT_fB [0, 1, 2, 3, 4, 5, 6, 7, 8, 9, 10, 11, 12, 13, 14, 15] 16 (y := 239) (pcN := 26) (dC := 1) (bc1 := 0) (bc2 := 0) (c1 := 0) (c2 := 0) (as := [(4, 0)]) (asC := [(4, 0)]) (LN := [(2, (0, 0)), (0, (4, 0)), (1, (0, 3))]) (stN := []) (hsC := jpA_3762) (hsD := jpA_3764) (v := (9, 0)) (st2 := []) (hs2 := jpA_3766) (jA_239_1017 (d := 0)) (by rfl) (by rfl) (by decide +kernel) (by rfl) (by rfl) (by omega) (by omega) (by omega) (by omega) rfl (by decide +kernel) ?_
  refine jT_advK 5 (pcN := 10) (LN := [(2, (0, 1)), (0, (4, 0)), (1, (0, 3))]) (stN := [(0, 3), (4, 0), (0, 1)]) (hsN := jpA_3766) (c1 := 0) (s1 := 0) (c2 := 0) (s2 := 0) (by decide +kernel) ?_ (by omega) (by omega)
  refine jT_fR [0, 1, 2, 3, 4, 5, 6, 7, 8, 9, 10, 11, 12, 13, 14, 15] 16 (y := 245) (pcN := 13) (dC := 0) (bc1 := 0) (bc2 := 0) (c1 := 0) (c2 := 0) (as := [(4, 0), (0, 3)]) (asC := [(4, 0), (0, 3)]) (LN := [(2, (0, 1)), (0, (4, 0)), (1, (0, 3))]) (stN := [(0, 1)]) (hsC := jpA_1545) (v := (0, 1)) (st2 := [(0, 1), (0, 1)]) (jA_245_399 (d := 0)) (by rfl) (by rfl) (by decide +kernel) (by rfl) (by rfl) (by omega) (by omega) (by omega) (by omega) rfl ?_
  refine jT_advK 1 (pcN := 32) (LN := [(2, (0, 1)), (0, (4, 0)), (1, (0, 3))]) (stN := []) (hsN := jpA_3766) (c1 := 0) (s1 := 0) (c2 := 0) (s2 := 0) (by decide +kernel) ?_ (by omega) (by omega)
  exact jT_ret rfl (by decide) (by show 16 ≤ 16; decide) (by omega) (by omega) ⟨rfl, rfl, rfl⟩
theorem jA_281_1032 {xs : List Int} {d : Nat} : jT xs (d + 6) 281 16 0 [(0, (4, 0)), (1, (0, 3))] [] jpA_1840 0 0 (fun k v hsN => k = 0 ∧ v = (0, 1) ∧ hsN = jpA_3766) := by
  refine jT_advK 2 (pcN := 2) (LN := [(0, (4, 0)), (1, (0, 3))]) (stN := [(0, 3), (4, 0)]) (hsN := jpA_1840) (c1 := 0) (s1 := 0) (c2 := 0) (s2 := 0) (by decide +kernel) ?_ (by omega) (by omega)
  refine jT_fR [] 16 (y := 238) (pcN := 5) (dC := 1) (bc1 := 0) (bc2 := 0) (c1 := 0) (c2 := 0) (as := [(0, 3)]) (asC := [(0, 3)]) (LN := [(0, (4, 0)), (1, (0, 3))]) (stN := [(4, 0)]) (hsC := []) (v := (0, 1)) (st2 := [(0, 1), (4, 0)]) (jA_238_393 (d := 0)) (by rfl) (by rfl) (by decide +kernel) (by rfl) (by rfl) (by omega) (by omega) (by omega) (by omega) rfl ?_
  refine jT_fR [0, 1, 2, 3, 4, 5, 6, 7, 8, 9, 10, 11, 12, 13, 14, 15] 16 (y := 190) (pcN := 8) (dC := 1) (bc1 := 0) (bc2 := 0) (c1 := 0) (c2 := 0) (as := [(4, 0), (0, 1)]) (asC := [(4, 0), (0, 1)]) (LN := [(0, (4, 0)), (1, (0, 3))]) (stN := []) (hsC := jpA_22) (v := (0, 0)) (st2 := [(0, 0)]) (jA_190_39 (d := 0)) (by rfl) (by rfl) (by decide +kernel) (by rfl) (by rfl) (by omega) (by omega) (by omega) (by omega) rfl ?_
  refine jT_advK 3 (pcN := 15) (LN := [(0, (4, 0)), (1, (0, 3))]) (stN := [(0, 3), (4, 0)]) (hsN := jpA_1840) (c1 := 0) (s1 := 0) (c2 := 0) (s2 := 0) (by decide +kernel) ?_ (by omega) (by omega)
  refine jT_fB [0, 1, 2, 3, 4, 5, 6, 7, 8, 9, 10, 11, 12, 13, 14, 15] 16 (y := 282) (pcN := 18) (dC := 5) (bc1 := 0) (bc2 := 0) (c1 := 0) (c2 := 0) (as := [(4, 0), (0, 3)]) (asC := [(4, 0), (0, 3)]) (LN := [(0, (4, 0)), (1, (0, 3))]) (stN := []) (hsC := jpA_1840) (hsD := jpA_3766) (v := (9, 0)) (st2 := []) (hs2 := jpA_3766) (jA_282_1031 (d := 0)) (by rfl) (by rfl) (by decide +kernel) (by rfl) (by rfl) (by omega) (by omega) (by omega) (by omega) rfl (by decide +kernel) ?_
  refine jT_advK 2 (pcN := 22) (LN := [(0, (4, 0)), (1, (0, 3))]) (stN := [(0, 1)]) (hsN := jpA_3766) (c1 := 0) (s1 := 0) (c2 := 0) (s2 := 0) (by decide +kernel) ?_ (by omega) (by omega)
  exact jT_ret rfl (by decide) (by show 16 ≤ 16; decide) (by omega) (by omega) ⟨rfl, rfl, rfl⟩
theorem jA_150_1033 {xs : List Int} {d : Nat} {x1 : Int} (h_x1 : 4 ≤ x1 ∧ x1 ≤ 2147483647) : jT xs (d + 1) 150 12 0 [(0, (4, 0)), (1, (0, x1))] [] jpA_6 1 6 (fun k v hsN => k = 1 ∧ v = (0, 0) ∧ hsN = jpA_6 ++ []) := by
  refine jT_xaload_n (v := (4, 0)) (pcN := 1) jI_150_0 rfl rfl rfl ?_
  refine jT_xiload_n (v := (0, x1)) (pcN := 2) jI_150_1 rfl rfl rfl ?_
  refine jT_xiconst (k := 4) (pcN := 3) jI_150_2 rfl ?_
  exact jT_fX [0] 12 (y := 115) (pcN := 6) (dC := 0) (bc1 := 1) (bc2 := 6) (as := [(4, 0), (0, x1), (0, 4)]) (asC := [(4, 0), (0, x1), (0, 4)]) (LN := [(0, (4, 0)), (1, (0, x1))]) (stN := []) (hsC := [jgh]) (e := 0) (jA_115_405 (d := 0) (by omega)) (by rfl) (by rfl) (by decide +kernel) (by rfl) (by rfl) (by omega) (by omega) (by omega) (by omega) ⟨rfl, ⟨rfl, rfl, rfl⟩⟩
theorem jA_355_1034 {xs : List Int} {d : Nat} {x1 : Int} (h_x1 : 4 ≤ x1 ∧ x1 ≤ 2147483647) : jT xs (d + 2) 355 13 0 [(0, (4, 0)), (1, (0, x1)), (2, (4, 1))] [] jpA_15 1 6 (fun k v hsN => k = 0 ∧ v = (0, 1) ∧ hsN = jpA_15 ++ []) := by
  refine jT_xaload_n (v := (4, 1)) (pcN := 1) jI_355_0 rfl rfl rfl ?_
  refine jT_xiconst (k := 0) (pcN := 2) jI_355_1 rfl ?_
  refine jT_xaload_n (v := (4, 0)) (pcN := 3) jI_355_2 rfl rfl rfl ?_
  refine jT_xiload_n (v := (0, x1)) (pcN := 4) jI_355_3 rfl rfl rfl ?_
  exact jT_fX [0, 2, 3, 4, 5, 6, 7, 8, 9, 10, 11, 12] 13 (y := 150) (pcN := 7) (dC := 1) (bc1 := 1) (bc2 := 6) (as := [(4, 0), (0, x1)]) (asC := [(4, 0), (0, x1)]) (LN := [(0, (4, 0)), (1, (0, x1)), (2, (4, 1))]) (stN := [(0, 0), (4, 1)]) (hsC := jpA_6) (e := 0) (jA_150_1033 (d := 0) (by omega)) (by rfl) (by rfl) (by decide +kernel) (by rfl) (by rfl) (by omega) (by omega) (by omega) (by omega) (show _ from ⟨rfl, rfl, rfl⟩)
theorem jA_281_1035 {xs : List Int} {d : Nat} {x1 : Int} (h_x1 : 4 ≤ x1 ∧ x1 ≤ 2147483647) : jT xs (d + 2) 281 16 0 [(0, (4, 0)), (1, (0, x1))] [] jpA_22 0 0 (fun k v hsN => k = 0 ∧ v = (0, 0) ∧ hsN = jpA_20) := by
  refine jT_xaload_n (v := (4, 0)) (pcN := 1) jI_281_0 rfl rfl rfl ?_
  refine jT_xiload_n (v := (0, x1)) (pcN := 2) jI_281_1 rfl rfl rfl ?_
  refine jT_fR [] 16 (y := 238) (pcN := 5) (dC := 1) (bc1 := 0) (bc2 := 0) (c1 := 0) (c2 := 0) (as := [(0, x1)]) (asC := [(0, x1)]) (LN := [(0, (4, 0)), (1, (0, x1))]) (stN := [(4, 0)]) (hsC := []) (v := (0, 0)) (st2 := [(0, 0), (4, 0)]) (jA_238_408 (d := 0) (by omega)) (by rfl) (by rfl) (by decide +kernel) (by rfl) (by rfl) (by omega) (by omega) (by omega) (by omega) rfl ?_
  refine jT_fB [0, 1, 2, 3, 4, 5, 6, 7, 8, 9, 10, 11, 12, 13, 14, 15] 16 (y := 190) (pcN := 8) (dC := 1) (bc1 := 0) (bc2 := 0) (c1 := 0) (c2 := 0) (as := [(4, 0), (0, 0)]) (asC := [(4, 0), (0, 0)]) (LN := [(0, (4, 0)), (1, (0, x1))]) (stN := []) (hsC := jpA_22) (hsD := jpA_20) (v := (0, 1)) (st2 := [(0, 1)]) (hs2 := jpA_20) (jA_190_6 (d := 0)) (by rfl) (by rfl) (by decide +kernel) (by rfl) (by rfl) (by omega) (by omega) (by omega) (by omega) rfl (by decide +kernel) ?_
  refine jT_xifF (t := 13) (pcN := 11) jI_281_8 rfl (by decide +kernel) rfl rfl ?_
  refine jT_xiconst (k := 0) (pcN := 12) jI_281_11 rfl ?_
  exact jT_ret rfl (by decide) (by show 16 ≤ 16; decide) (by omega) (by omega) ⟨rfl, rfl, rfl⟩
theorem jI_379_2418 : jmI (jm 379) 2418 = (.aload_n 1, 1) := by rfl
theorem jI_379_2419 : jmI (jm 379) 2419 = (.aload_n 0, 1) := by rfl
theorem jI_379_2420 : jmI (jm 379) 2420 = (.iload 5, 2) := by rfl
theorem jI_379_2422 : jmI (jm 379) 2422 = (.iconst 1, 1) := by rfl
theorem jI_379_2423 : jmI (jm 379) 2423 = (.iadd, 1) := by rfl
theorem jI_379_2425 : jmI (jm 379) 2425 = (.aload_n 3, 1) := by rfl
theorem jI_379_2429 : jmI (jm 379) 2429 = (.istore 6, 2) := by rfl
theorem jI_379_2431 : jmI (jm 379) 2431 = (.aload_n 2, 1) := by rfl
theorem jI_379_2432 : jmI (jm 379) 2432 = (.aload_n 0, 1) := by rfl
theorem jI_379_2433 : jmI (jm 379) 2433 = (.iload 5, 2) := by rfl
theorem jI_379_2435 : jmI (jm 379) 2435 = (.iconst 1, 1) := by rfl
theorem jI_379_2436 : jmI (jm 379) 2436 = (.iadd, 1) := by rfl
theorem jI_379_2441 : jmI (jm 379) 2441 = (.istore 7, 2) := by rfl
theorem jI_379_2443 : jmI (jm 379) 2443 = (.aload_n 2, 1) := by rfl
theorem jI_379_2447 : jmI (jm 379) 2447 = (.iload 6, 2) := by rfl
theorem jI_379_2449 : jmI (jm 379) 2449 = (.if_icmp .eq 5, 3) := by rfl
theorem jI_379_2454 : jmI (jm 379) 2454 = (.iload 6, 2) := by rfl
theorem jI_379_2456 : jmI (jm 379) 2456 = (.ifCond .ne 15, 3) := by rfl
theorem jI_379_2471 : jmI (jm 379) 2471 = (.goto 1269, 3) := by rfl
set_option maxRecDepth 100000 in
theorem jL_31_0 {d : Nat} {x0 x1 x2 x3 x4 : Int} (h_x0 : (-2147483648) ≤ x0 ∧ x0 ≤ 2147483647) (h_x1 : (-2147483648) ≤ x1 ∧ x1 ≤ (-1)) (h_x2 : (-2147483648) ≤ x2 ∧ x2 ≤ 2147483647) (h_x3 : (-2147483648) ≤ x3 ∧ x3 ≤ 2147483647) (h_x4 : (-2147483648) ≤ x4 ∧ x4 ≤ 2147483647) : jT [x0, x1, x2, x3, x4] (d + 3) 379 30 2418 [(5, (0, 0)), (4, (4, 3)), (3, (4, 2)), (2, (4, 1)), (1, (4, 0)), (0, (6, 0))] [] jpA_267 1 6 (fun k v hsN => k = 0 ∧ v = (0, 1)) := by
  refine jT_xaload_n (v := (4, 0)) (pcN := 2419) jI_379_2418 rfl rfl rfl ?_
  refine jT_xaload_n (v := (6, 0)) (pcN := 2420) jI_379_2419 rfl rfl rfl ?_
  refine jT_xiload (v := (0, 0)) (pcN := 2422) jI_379_2420 rfl rfl rfl ?_
  refine jT_xiconst (k := 1) (pcN := 2423) jI_379_2422 rfl ?_
  refine jT_xiadd (x := 0) (y := 1) (z := 1) (pcN := 2424) jI_379_2423 rfl (by decide) rfl ?_
  refine jT_adv 1 (pcN := 2425) (LN := [(5, (0, 0)), (4, (4, 3)), (3, (4, 2)), (2, (4, 1)), (1, (4, 0)), (0, (6, 0))]) (stN := [(0, x1), (4, 0)]) (hsN := jpA_267) (c1 := 0) (s1 := 0) (c2 := 1) (s2 := 6) (by exact rfl) ?_ (by omega) (by omega)
  refine jT_xaload_n (v := (4, 2)) (pcN := 2426) jI_379_2425 rfl rfl rfl ?_
  refine jT_fR [0, 2, 4, 5, 6, 7, 8, 9, 10, 11, 12, 13, 14] 30 (y := 355) (pcN := 2429) (dC := 2) (bc1 := 1) (bc2 := 6) (c1 := 0) (c2 := 0) (as := [(4, 0), (0, x1), (4, 2)]) (asC := [(4, 0), (0, x1), (4, 1)]) (LN := [(5, (0, 0)), (4, (4, 3)), (3, (4, 2)), (2, (4, 1)), (1, (4, 0)), (0, (6, 0))]) (stN := []) (hsC := jpA_15) (v := (0, 1)) (st2 := [(0, 1)]) (jA_355_1005 (d := 0) (by omega)) (by rfl) (by rfl) (by decide +kernel) (by rfl) (by rfl) (by omega) (by omega) (by omega) (by omega) rfl ?_
  refine jT_xistore (v := (0, 1)) (LN := [(6, (0, 1)), (5, (0, 0)), (4, (4, 3)), (3, (4, 2)), (2, (4, 1)), (1, (4, 0)), (0, (6, 0))]) (pcN := 2431) jI_379_2429 rfl rfl rfl rfl ?_
  refine jT_xaload_n (v := (4, 1)) (pcN := 2432) jI_379_2431 rfl rfl rfl ?_
  refine jT_xaload_n (v := (6, 0)) (pcN := 2433) jI_379_2432 rfl rfl rfl ?_
  refine jT_xiload (v := (0, 0)) (pcN := 2435) jI_379_2433 rfl rfl rfl ?_
  refine jT_xiconst (k := 1) (pcN := 2436) jI_379_2435 rfl ?_
  refine jT_xiadd (x := 0) (y := 1) (z := 1) (pcN := 2437) jI_379_2436 rfl (by decide) rfl ?_
  refine jT_adv 1 (pcN := 2438) (LN := [(6, (0, 1)), (5, (0, 0)), (4, (4, 3)), (3, (4, 2)), (2, (4, 1)), (1, (4, 0)), (0, (6, 0))]) (stN := [(0, x1), (4, 1)]) (hsN := jpA_267) (c1 := 0) (s1 := 0) (c2 := 0) (s2 := 0) (by exact rfl) ?_ (by omega) (by omega)
  refine jT_fB [1, 15, 16, 17, 18, 19, 20, 21, 22, 23, 24, 25, 26, 27, 28, 29] 30 (y := 281) (pcN := 2441) (dC := 2) (bc1 := 0) (bc2 := 0) (c1 := 0) (c2 := 0) (as := [(4, 1), (0, x1)]) (asC := [(4, 0), (0, x1)]) (LN := [(6, (0, 1)), (5, (0, 0)), (4, (4, 3)), (3, (4, 2)), (2, (4, 1)), (1, (4, 0)), (0, (6, 0))]) (stN := []) (hsC := jpA_22) (hsD := jpA_20) (v := (0, 0)) (st2 := [(0, 0)]) (hs2 := jpA_306) (jA_281_1006 (d := 0) (by omega)) (by rfl) (by rfl) (by decide +kernel) (by rfl) (by rfl) (by omega) (by omega) (by omega) (by omega) rfl (by decide +kernel) ?_
  refine jT_xistore (v := (0, 0)) (LN := [(7, (0, 0)), (6, (0, 1)), (5, (0, 0)), (4, (4, 3)), (3, (4, 2)), (2, (4, 1)), (1, (4, 0)), (0, (6, 0))]) (pcN := 2443) jI_379_2441 rfl rfl rfl rfl ?_
  refine jT_xaload_n (v := (4, 1)) (pcN := 2444) jI_379_2443 rfl rfl rfl ?_
  refine jT_fR [1, 15, 16, 17, 18, 19, 20, 21, 22, 23, 24, 25, 26, 27, 28, 29] 30 (y := 186) (pcN := 2447) (dC := 0) (bc1 := 0) (bc2 := 0) (c1 := 0) (c2 := 0) (as := [(4, 1)]) (asC := [(4, 0)]) (LN := [(7, (0, 0)), (6, (0, 1)), (5, (0, 0)), (4, (4, 3)), (3, (4, 2)), (2, (4, 1)), (1, (4, 0)), (0, (6, 0))]) (stN := []) (hsC := jpA_20) (v := (0, 1)) (st2 := [(0, 1)]) (jA_186_8 (d := 0)) (by rfl) (by rfl) (by decide +kernel) (by rfl) (by rfl) (by omega) (by omega) (by omega) (by omega) rfl ?_
  refine jT_xiload (v := (0, 1)) (pcN := 2449) jI_379_2447 rfl rfl rfl ?_
  refine jT_xicT (pcN := 2454) jI_379_2449 rfl (by decide +kernel) rfl ?_
  refine jT_xiload (v := (0, 1)) (pcN := 2456) jI_379_2454 rfl rfl rfl ?_
  refine jT_xifT (pcN := 2471) jI_379_2456 rfl (by decide +kernel) rfl ?_
  refine jT_xgoto (pcN := 3740) jI_379_2471 rfl ?_
  refine jT_xiinc (x := 0) (z := 5) (LN := [(5, (0, 5)), (7, (0, 0)), (6, (0, 1)), (4, (4, 3)), (3, (4, 2)), (2, (4, 1)), (1, (4, 0)), (0, (6, 0))]) (pcN := 3743) jI_379_3740 rfl rfl (by decide) rfl rfl ?_
  refine jT_xgoto (pcN := 28) jI_379_3743 rfl ?_
  refine jT_xiload (v := (0, 5)) (pcN := 30) jI_379_28 rfl rfl rfl ?_
  refine jT_xaload_n (v := (6, 0)) (pcN := 31) jI_379_30 rfl rfl rfl ?_
  refine jT_adv 1 (pcN := 32) (LN := [(5, (0, 5)), (7, (0, 0)), (6, (0, 1)), (4, (4, 3)), (3, (4, 2)), (2, (4, 1)), (1, (4, 0)), (0, (6, 0))]) (stN := [(0, 5), (0, 5)]) (hsN := jpA_306) (c1 := 0) (s1 := 0) (c2 := 0) (s2 := 0) (by exact rfl) ?_ (by omega) (by omega)
  refine jT_xiconst (k := 5) (pcN := 33) jI_379_32 rfl ?_
  refine jT_xisub (x := 5) (y := 5) (z := 0) (pcN := 34) jI_379_33 rfl (by decide) rfl ?_
  refine jT_xicT (pcN := 3746) jI_379_34 rfl (by decide +kernel) rfl ?_
  refine jT_xiconst (k := 1) (pcN := 3747) jI_379_3746 rfl ?_
  exact jT_ret rfl (by decide) (by show 30 ≤ 30; decide) (by omega) (by omega) ⟨rfl, rfl⟩
def jpA_3802 : List JC := [jzA_265, jzA_266, (101, [], [0]), jgh, (8, [(4, 30), (4, 31)], []), jgh, jgh, jgh, jgh, jgh, jgh, jgh, jgh, jgh, jzA_721, (100, [], jS0), jgh, jgh, jgh, jgh, jgh, (101, [], [0, 0, 0, 0, 0, 0]), (100, [], (List.replicate 1792 0)), jgh, jgh, jgh, jgh, jgh, jgh, jgh, jgh, (101, [], [0, 0, 0, 0, 0, 0]), jgh, (117, [], [37, 38, 39, 40]), jgh, jgh, jgh, (7, [(4, 41), (4, (-1)), (4, (-1))], []), jgh, jgh, jgh, (114, [], [42]), (4, [(4, 43), (1, 1)], []), (101, [], [0, 0, 0, 0, 0, 0])]
def jpA_3803 : List JC := [jzA_265, jzA_266, (101, [], [1]), jgh, (8, [(4, 30), (4, 31)], []), jgh, jgh, jgh, jgh, jgh, jgh, jgh, jgh, jgh, jzA_721, (100, [], jS0), jgh, jgh, jgh, jgh, jgh, (101, [], [0, 0, 0, 0, 0, 0]), (100, [], (List.replicate 1792 0)), jgh, jgh, jgh, jgh, jgh, jgh, jgh, jgh, (101, [], [0, 0, 0, 0, 0, 0]), jgh, (117, [], [37, 38, 39, 40]), jgh, jgh, jgh, (7, [(4, 41), (4, 45), (4, 50)], []), jgh, jgh, jgh, (114, [], [42]), (4, [(4, 43), (1, 1)], []), (101, [], [0, 0, 0, 0, 0, 0]), (114, [], [49]), (114, [], [49]), (101, [], [0, 0, 0, 0, 0, 0]), (4, [(4, 46), (1, 1)], []), (101, [], [1, 0, 0, 0, 0, 0]), (4, [(4, 48), (1, 1)], []), (100, [], [0])]
def jzA_3804 : JC := (14, [(0, 0), (4, 15), (4, 16), (4, 17), (4, 18), (0, 0), (4, 19), (0, 0), (4, 20), (4, 21), (1, 1), (4, 22), (0, 1), (4, 23), (0, 0), (0, 0), (0, 0), (0, 0), (0, 0), (0, 0), (0, 0), (4, 24), (4, 25), (4, 26), (4, 27), (4, 28), (4, 29), (0, 0)], [])
def jpA_3805 : List JC := [jzA_265, jzA_3804, (101, [], [1]), jgh, (8, [(4, 30), (4, 31)], []), jgh, jgh, jgh, jgh, jgh, jgh, jgh, jgh, jgh, jzA_721, (100, [], jS0), jgh, jgh, jgh, jgh, jgh, (101, [], [1, 0, 0, 0, 0, 0]), jzA_3760, jgh, jgh, jgh, jgh, jgh, jgh, jgh, jgh, (101, [], [0, 0, 0, 0, 0, 0]), jgh, (117, [], [37, 38, 39, 40]), jgh, jgh, jgh, (7, [(4, 41), (4, 45), (4, 50)], []), jgh, jgh, jgh, (114, [], [42]), (4, [(4, 43), (1, 1)], []), (101, [], [0, 0, 0, 0, 0, 0]), (114, [], [49]), (114, [], [49]), (101, [], [0, 0, 0, 0, 0, 0]), (4, [(4, 46), (1, 1)], []), (101, [], [1, 0, 0, 0, 0, 0]), (4, [(4, 48), (1, 1)], []), (100, [], [0])]
theorem jI_379_2459 : jmI (jm 379) 2459 = (.aload_n 3, 1) := by rfl
theorem jI_379_2460 : jmI (jm 379) 2460 = (.iconst 0, 1) := by rfl
theorem jI_379_2461 : jmI (jm 379) 2461 = (.laload, 1) := by rfl
theorem jI_379_2462 : jmI (jm 379) 2462 = (.iload 7, 2) := by rfl
theorem jI_379_2464 : jmI (jm 379) 2464 = (.i2l, 1) := by rfl
theorem jI_379_2466 : jmI (jm 379) 2466 = (.ifCond .eq 5, 3) := by rfl
set_option maxRecDepth 100000 in
theorem jL_31_1 {d : Nat} {x0 x1 x2 x3 x4 : Int} (h_x0 : (-2147483648) ≤ x0 ∧ x0 ≤ 2147483647) (h_x1 : 0 ≤ x1 ∧ x1 ≤ 0) (h_x2 : (-2147483648) ≤ x2 ∧ x2 ≤ 2147483647) (h_x3 : (-2147483648) ≤ x3 ∧ x3 ≤ 2147483647) (h_x4 : (-2147483648) ≤ x4 ∧ x4 ≤ 2147483647) : jT [x0, x1, x2, x3, x4] (d + 8) 379 44 2418 [(5, (0, 0)), (4, (4, 3)), (3, (4, 2)), (2, (4, 1)), (1, (4, 0)), (0, (6, 0))] [] jpA_3802 7 19 (fun k v hsN => k = 0 ∧ v = (0, 1)) := by
  refine jT_xaload_n (v := (4, 0)) (pcN := 2419) jI_379_2418 rfl rfl rfl ?_
  refine jT_xaload_n (v := (6, 0)) (pcN := 2420) jI_379_2419 rfl rfl rfl ?_
  refine jT_xiload (v := (0, 0)) (pcN := 2422) jI_379_2420 rfl rfl rfl ?_
  refine jT_xiconst (k := 1) (pcN := 2423) jI_379_2422 rfl ?_
  refine jT_xiadd (x := 0) (y := 1) (z := 1) (pcN := 2424) jI_379_2423 rfl (by decide) rfl ?_
  refine jT_adv 1 (pcN := 2425) (LN := [(5, (0, 0)), (4, (4, 3)), (3, (4, 2)), (2, (4, 1)), (1, (4, 0)), (0, (6, 0))]) (stN := [(0, x1), (4, 0)]) (hsN := jpA_3802) (c1 := 0) (s1 := 0) (c2 := 7) (s2 := 19) (by exact rfl) ?_ (by omega) (by omega)
  refine jT_eq (LN := [(5, (0, 0)), (4, (4, 3)), (3, (4, 2)), (2, (4, 1)), (1, (4, 0)), (0, (6, 0))]) (stN := [(0, 0), (4, 0)]) (hsN := [jzA_265, jzA_266, (101, [], [0]), jgh, (8, [(4, 30), (4, 31)], []), jgh, jgh, jgh, jgh, jgh, jgh, jgh, jgh, jgh, jzA_721, (100, [], jS0), jgh, jgh, jgh, jgh, jgh, (101, [], [0, 0, 0, 0, 0, 0]), (100, [], (List.replicate 1792 0)), jgh, jgh, jgh, jgh, jgh, jgh, jgh, jgh, (101, [], [0, 0, 0, 0, 0, 0]), jgh, (117, [], [37, 38, 39, 40]), jgh, jgh, jgh, (7, [(4, 41), (4, (-1)), (4, (-1))], []), jgh, jgh, jgh, (114, [], [42]), (4, [(4, 43), (1, 1)], []), (101, [], [0, 0, 0, 0, 0, 0])]) (rfl) (by simp only [List.cons.injEq, Prod.mk.injEq, and_true, true_and] <;> ((try unfold jw); (try unfold jwl); omega)) (rfl) ?_
  refine jT_xaload_n (v := (4, 2)) (pcN := 2426) jI_379_2425 rfl rfl rfl ?_
  refine jT_fB [0, 2, 4, 5, 6, 7, 8, 9, 10, 11, 12, 13, 14, 30, 31, 32, 33, 34, 35, 36, 37, 38, 39, 40, 41, 42, 43] 44 (y := 355) (pcN := 2429) (dC := 7) (bc1 := 7) (bc2 := 19) (c1 := 0) (c2 := 0) (as := [(4, 0), (0, 0), (4, 2)]) (asC := [(4, 0), (0, 0), (4, 1)]) (LN := [(5, (0, 0)), (4, (4, 3)), (3, (4, 2)), (2, (4, 1)), (1, (4, 0)), (0, (6, 0))]) (stN := []) (hsC := jpA_3744) (hsD := jpA_3746) (v := (0, 0)) (st2 := [(0, 0)]) (hs2 := jpA_3803) (jA_355_1015 (d := 0)) (by rfl) (by rfl) (by decide +kernel) (by rfl) (by rfl) (by omega) (by omega) (by omega) (by omega) rfl (by decide +kernel) ?_
  refine jT_xistore (v := (0, 0)) (LN := [(6, (0, 0)), (5, (0, 0)), (4, (4, 3)), (3, (4, 2)), (2, (4, 1)), (1, (4, 0)), (0, (6, 0))]) (pcN := 2431) jI_379_2429 rfl rfl rfl rfl ?_
  refine jT_xaload_n (v := (4, 1)) (pcN := 2432) jI_379_2431 rfl rfl rfl ?_
  refine jT_xaload_n (v := (6, 0)) (pcN := 2433) jI_379_2432 rfl rfl rfl ?_
  refine jT_xiload (v := (0, 0)) (pcN := 2435) jI_379_2433 rfl rfl rfl ?_
  refine jT_xiconst (k := 1) (pcN := 2436) jI_379_2435 rfl ?_
  refine jT_xiadd (x := 0) (y := 1) (z := 1) (pcN := 2437) jI_379_2436 rfl (by decide) rfl ?_
  refine jT_adv 1 (pcN := 2438) (LN := [(6, (0, 0)), (5, (0, 0)), (4, (4, 3)), (3, (4, 2)), (2, (4, 1)), (1, (4, 0)), (0, (6, 0))]) (stN := [(0, x1), (4, 1)]) (hsN := jpA_3803) (c1 := 0) (s1 := 0) (c2 := 0) (s2 := 0) (by exact rfl) ?_ (by omega) (by omega)
  refine jT_eq (LN := [(6, (0, 0)), (5, (0, 0)), (4, (4, 3)), (3, (4, 2)), (2, (4, 1)), (1, (4, 0)), (0, (6, 0))]) (stN := [(0, 0), (4, 1)]) (hsN := [jzA_265, jzA_266, (101, [], [1]), jgh, (8, [(4, 30), (4, 31)], []), jgh, jgh, jgh, jgh, jgh, jgh, jgh, jgh, jgh, jzA_721, (100, [], jS0), jgh, jgh, jgh, jgh, jgh, (101, [], [0, 0, 0, 0, 0, 0]), (100, [], (List.replicate 1792 0)), jgh, jgh, jgh, jgh, jgh, jgh, jgh, jgh, (101, [], [0, 0, 0, 0, 0, 0]), jgh, (117, [], [37, 38, 39, 40]), jgh, jgh, jgh, (7, [(4, 41), (4, 45), (4, 50)], []), jgh, jgh, jgh, (114, [], [42]), (4, [(4, 43), (1, 1)], []), (101, [], [0, 0, 0, 0, 0, 0]), (114, [], [49]), (114, [], [49]), (101, [], [0, 0, 0, 0, 0, 0]), (4, [(4, 46), (1, 1)], []), (101, [], [1, 0, 0, 0, 0, 0]), (4, [(4, 48), (1, 1)], []), (100, [], [0])]) (rfl) (by simp only [List.cons.injEq, Prod.mk.injEq, and_true, true_and] <;> ((try unfold jw); (try unfold jwl); omega)) (rfl) ?_
  refine jT_fB [1, 15, 16, 17, 18, 19, 20, 21, 22, 23, 24, 25, 26, 27, 28, 29] 51 (y := 281) (pcN := 2441) (dC := 6) (bc1 := 0) (bc2 := 0) (c1 := 0) (c2 := 0) (as := [(4, 1), (0, 0)]) (asC := [(4, 0), (0, 0)]) (LN := [(6, (0, 0)), (5, (0, 0)), (4, (4, 3)), (3, (4, 2)), (2, (4, 1)), (1, (4, 0)), (0, (6, 0))]) (stN := []) (hsC := jpA_1840) (hsD := jpA_3766) (v := (0, 1)) (st2 := [(0, 1)]) (hs2 := jpA_3805) (jA_281_1019 (d := 0)) (by rfl) (by rfl) (by decide +kernel) (by rfl) (by rfl) (by omega) (by omega) (by omega) (by omega) rfl (by decide +kernel) ?_
  refine jT_xistore (v := (0, 1)) (LN := [(7, (0, 1)), (6, (0, 0)), (5, (0, 0)), (4, (4, 3)), (3, (4, 2)), (2, (4, 1)), (1, (4, 0)), (0, (6, 0))]) (pcN := 2443) jI_379_2441 rfl rfl rfl rfl ?_
  refine jT_xaload_n (v := (4, 1)) (pcN := 2444) jI_379_2443 rfl rfl rfl ?_
  refine jT_fR [1, 15, 16, 17, 18, 19, 20, 21, 22, 23, 24, 25, 26, 27, 28, 29] 51 (y := 186) (pcN := 2447) (dC := 0) (bc1 := 0) (bc2 := 0) (c1 := 0) (c2 := 0) (as := [(4, 1)]) (asC := [(4, 0)]) (LN := [(7, (0, 1)), (6, (0, 0)), (5, (0, 0)), (4, (4, 3)), (3, (4, 2)), (2, (4, 1)), (1, (4, 0)), (0, (6, 0))]) (stN := []) (hsC := jpA_3767) (v := (0, 0)) (st2 := [(0, 0)]) (jA_186_1020 (d := 0)) (by rfl) (by rfl) (by decide +kernel) (by rfl) (by rfl) (by omega) (by omega) (by omega) (by omega) rfl ?_
  refine jT_xiload (v := (0, 0)) (pcN := 2449) jI_379_2447 rfl rfl rfl ?_
  refine jT_xicT (pcN := 2454) jI_379_2449 rfl (by decide +kernel) rfl ?_
  refine jT_xiload (v := (0, 0)) (pcN := 2456) jI_379_2454 rfl rfl rfl ?_
  refine jT_xifF (t := 2471) (pcN := 2459) jI_379_2456 rfl (by decide +kernel) rfl rfl ?_
  refine jT_xaload_n (v := (4, 2)) (pcN := 2460) jI_379_2459 rfl rfl rfl ?_
  refine jT_xiconst (k := 0) (pcN := 2461) jI_379_2460 rfl ?_
  refine jT_lald (x := 1) (a := 2) (j := 0) (fs := []) (X := [1]) jI_379_2461 rfl rfl rfl rfl ?_
  refine jT_eq (LN := [(7, (0, 1)), (6, (0, 0)), (5, (0, 0)), (4, (4, 3)), (3, (4, 2)), (2, (4, 1)), (1, (4, 0)), (0, (6, 0))]) (stN := [(1, 1)]) (hsN := jpA_3805) rfl rfl rfl ?_
  refine jT_xiload (v := (0, 1)) (pcN := 2464) jI_379_2462 rfl rfl rfl ?_
  refine jT_xi2l (x := 1) (z := 1) (pcN := 2465) jI_379_2464 rfl (by decide +kernel) rfl ?_
  refine jT_lcmp (a := 1) (b := 1) (z := 0) (by rfl) (by rfl) (by decide +kernel) (by decide +kernel) (by decide) ?_
  refine jT_xifT (pcN := 2471) jI_379_2466 rfl (by decide +kernel) rfl ?_
  refine jT_xgoto (pcN := 3740) jI_379_2471 rfl ?_
  refine jT_xiinc (x := 0) (z := 5) (LN := [(5, (0, 5)), (7, (0, 1)), (6, (0, 0)), (4, (4, 3)), (3, (4, 2)), (2, (4, 1)), (1, (4, 0)), (0, (6, 0))]) (pcN := 3743) jI_379_3740 rfl rfl (by decide) rfl rfl ?_
  refine jT_xgoto (pcN := 28) jI_379_3743 rfl ?_
  refine jT_xiload (v := (0, 5)) (pcN := 30) jI_379_28 rfl rfl rfl ?_
  refine jT_xaload_n (v := (6, 0)) (pcN := 31) jI_379_30 rfl rfl rfl ?_
  refine jT_adv 1 (pcN := 32) (LN := [(5, (0, 5)), (7, (0, 1)), (6, (0, 0)), (4, (4, 3)), (3, (4, 2)), (2, (4, 1)), (1, (4, 0)), (0, (6, 0))]) (stN := [(0, 5), (0, 5)]) (hsN := jpA_3805) (c1 := 0) (s1 := 0) (c2 := 0) (s2 := 0) (by exact rfl) ?_ (by omega) (by omega)
  refine jT_xiconst (k := 5) (pcN := 33) jI_379_32 rfl ?_
  refine jT_xisub (x := 5) (y := 5) (z := 0) (pcN := 34) jI_379_33 rfl (by decide) rfl ?_
  refine jT_xicT (pcN := 3746) jI_379_34 rfl (by decide +kernel) rfl ?_
  refine jT_xiconst (k := 1) (pcN := 3747) jI_379_3746 rfl ?_
  exact jT_ret rfl (by decide) (by show 44 ≤ 51; decide) (by omega) (by omega) ⟨rfl, rfl⟩
def jpA_3812 : List JC := [jzA_265, jzA_266, (101, [], [0]), jgh, (8, [(4, 30), (4, 31)], []), jgh, jgh, jgh, jgh, jgh, jgh, jgh, jgh, jgh, jzA_721, (100, [], jS0), jgh, jgh, jgh, jgh, jgh, (101, [], [0, 0, 0, 0, 0, 0]), (100, [], (List.replicate 1792 0)), jgh, jgh, jgh, jgh, jgh, jgh, jgh, jgh, (101, [], [0, 0, 0, 0, 0, 0]), jgh, (117, [], [37, 38, 39, 40]), jgh, jgh, jgh, jgh, (7, [(4, 41), (4, (-1)), (4, (-1))], []), jgh, jgh, (114, [], [42]), (4, [(4, 43), (1, 1)], []), (101, [], [0, 0, 0, 0, 0, 0])]
def jpA_3813 : List JC := [jzA_265, jzA_266, (101, [], [1]), jgh, (8, [(4, 30), (4, 31)], []), jgh, jgh, jgh, jgh, jgh, jgh, jgh, jgh, jgh, jzA_721, (100, [], jS0), jgh, jgh, jgh, jgh, jgh, (101, [], [0, 0, 0, 0, 0, 0]), (100, [], (List.replicate 1792 0)), jgh, jgh, jgh, jgh, jgh, jgh, jgh, jgh, (101, [], [0, 0, 0, 0, 0, 0]), jgh, (117, [], [37, 38, 39, 40]), jgh, jgh, jgh, jgh, (7, [(4, 41), (4, 45), (4, 50)], []), jgh, jgh, (114, [], [42]), (4, [(4, 43), (1, 1)], []), (101, [], [0, 0, 0, 0, 0, 0]), (114, [], [49]), (114, [], [49]), (101, [], [0, 0, 0, 0, 0, 0]), (4, [(4, 46), (1, 1)], []), (101, [], [1, 0, 0, 0, 0, 0]), (4, [(4, 48), (1, 1)], []), (100, [], [0])]
def jpA_3814 : List JC := [jzA_265, jzA_3804, (101, [], [1]), jgh, (8, [(4, 30), (4, 31)], []), jgh, jgh, jgh, jgh, jgh, jgh, jgh, jgh, jgh, jzA_721, (100, [], jS0), jgh, jgh, jgh, jgh, jgh, (101, [], [1, 0, 0, 0, 0, 0]), jzA_3760, jgh, jgh, jgh, jgh, jgh, jgh, jgh, jgh, (101, [], [0, 0, 0, 0, 0, 0]), jgh, (117, [], [37, 38, 39, 40]), jgh, jgh, jgh, jgh, (7, [(4, 41), (4, 45), (4, 50)], []), jgh, jgh, (114, [], [42]), (4, [(4, 43), (1, 1)], []), (101, [], [0, 0, 0, 0, 0, 0]), (114, [], [49]), (114, [], [49]), (101, [], [0, 0, 0, 0, 0, 0]), (4, [(4, 46), (1, 1)], []), (101, [], [1, 0, 0, 0, 0, 0]), (4, [(4, 48), (1, 1)], []), (100, [], [0])]
set_option maxRecDepth 100000 in
theorem jL_31_2 {d : Nat} {x0 x1 x2 x3 x4 : Int} (h_x0 : (-2147483648) ≤ x0 ∧ x0 ≤ 2147483647) (h_x1 : 1 ≤ x1 ∧ x1 ≤ 1) (h_x2 : (-2147483648) ≤ x2 ∧ x2 ≤ 2147483647) (h_x3 : (-2147483648) ≤ x3 ∧ x3 ≤ 2147483647) (h_x4 : (-2147483648) ≤ x4 ∧ x4 ≤ 2147483647) : jT [x0, x1, x2, x3, x4] (d + 8) 379 44 2418 [(5, (0, 0)), (4, (4, 3)), (3, (4, 2)), (2, (4, 1)), (1, (4, 0)), (0, (6, 0))] [] jpA_3812 7 19 (fun k v hsN => k = 0 ∧ v = (0, 1)) := by
  refine jT_xaload_n (v := (4, 0)) (pcN := 2419) jI_379_2418 rfl rfl rfl ?_
  refine jT_xaload_n (v := (6, 0)) (pcN := 2420) jI_379_2419 rfl rfl rfl ?_
  refine jT_xiload (v := (0, 0)) (pcN := 2422) jI_379_2420 rfl rfl rfl ?_
  refine jT_xiconst (k := 1) (pcN := 2423) jI_379_2422 rfl ?_
  refine jT_xiadd (x := 0) (y := 1) (z := 1) (pcN := 2424) jI_379_2423 rfl (by decide) rfl ?_
  refine jT_adv 1 (pcN := 2425) (LN := [(5, (0, 0)), (4, (4, 3)), (3, (4, 2)), (2, (4, 1)), (1, (4, 0)), (0, (6, 0))]) (stN := [(0, x1), (4, 0)]) (hsN := jpA_3812) (c1 := 0) (s1 := 0) (c2 := 7) (s2 := 19) (by exact rfl) ?_ (by omega) (by omega)
  refine jT_eq (LN := [(5, (0, 0)), (4, (4, 3)), (3, (4, 2)), (2, (4, 1)), (1, (4, 0)), (0, (6, 0))]) (stN := [(0, 1), (4, 0)]) (hsN := [jzA_265, jzA_266, (101, [], [0]), jgh, (8, [(4, 30), (4, 31)], []), jgh, jgh, jgh, jgh, jgh, jgh, jgh, jgh, jgh, jzA_721, (100, [], jS0), jgh, jgh, jgh, jgh, jgh, (101, [], [0, 0, 0, 0, 0, 0]), (100, [], (List.replicate 1792 0)), jgh, jgh, jgh, jgh, jgh, jgh, jgh, jgh, (101, [], [0, 0, 0, 0, 0, 0]), jgh, (117, [], [37, 38, 39, 40]), jgh, jgh, jgh, jgh, (7, [(4, 41), (4, (-1)), (4, (-1))], []), jgh, jgh, (114, [], [42]), (4, [(4, 43), (1, 1)], []), (101, [], [0, 0, 0, 0, 0, 0])]) (rfl) (by simp only [List.cons.injEq, Prod.mk.injEq, and_true, true_and] <;> ((try unfold jw); (try unfold jwl); omega)) (rfl) ?_
  refine jT_xaload_n (v := (4, 2)) (pcN := 2426) jI_379_2425 rfl rfl rfl ?_
  refine jT_fB [0, 2, 4, 5, 6, 7, 8, 9, 10, 11, 12, 13, 14, 30, 31, 32, 33, 34, 35, 36, 37, 38, 39, 40, 41, 42, 43] 44 (y := 355) (pcN := 2429) (dC := 7) (bc1 := 7) (bc2 := 19) (c1 := 0) (c2 := 0) (as := [(4, 0), (0, 1), (4, 2)]) (asC := [(4, 0), (0, 1), (4, 1)]) (LN := [(5, (0, 0)), (4, (4, 3)), (3, (4, 2)), (2, (4, 1)), (1, (4, 0)), (0, (6, 0))]) (stN := []) (hsC := jpA_3770) (hsD := jpA_3772) (v := (0, 0)) (st2 := [(0, 0)]) (hs2 := jpA_3813) (jA_355_1022 (d := 0)) (by rfl) (by rfl) (by decide +kernel) (by rfl) (by rfl) (by omega) (by omega) (by omega) (by omega) rfl (by decide +kernel) ?_
  refine jT_xistore (v := (0, 0)) (LN := [(6, (0, 0)), (5, (0, 0)), (4, (4, 3)), (3, (4, 2)), (2, (4, 1)), (1, (4, 0)), (0, (6, 0))]) (pcN := 2431) jI_379_2429 rfl rfl rfl rfl ?_
  refine jT_xaload_n (v := (4, 1)) (pcN := 2432) jI_379_2431 rfl rfl rfl ?_
  refine jT_xaload_n (v := (6, 0)) (pcN := 2433) jI_379_2432 rfl rfl rfl ?_
  refine jT_xiload (v := (0, 0)) (pcN := 2435) jI_379_2433 rfl rfl rfl ?_
  refine jT_xiconst (k := 1) (pcN := 2436) jI_379_2435 rfl ?_
  refine jT_xiadd (x := 0) (y := 1) (z := 1) (pcN := 2437) jI_379_2436 rfl (by decide) rfl ?_
  refine jT_adv 1 (pcN := 2438) (LN := [(6, (0, 0)), (5, (0, 0)), (4, (4, 3)), (3, (4, 2)), (2, (4, 1)), (1, (4, 0)), (0, (6, 0))]) (stN := [(0, x1), (4, 1)]) (hsN := jpA_3813) (c1 := 0) (s1 := 0) (c2 := 0) (s2 := 0) (by exact rfl) ?_ (by omega) (by omega)
  refine jT_eq (LN := [(6, (0, 0)), (5, (0, 0)), (4, (4, 3)), (3, (4, 2)), (2, (4, 1)), (1, (4, 0)), (0, (6, 0))]) (stN := [(0, 1), (4, 1)]) (hsN := [jzA_265, jzA_266, (101, [], [1]), jgh, (8, [(4, 30), (4, 31)], []), jgh, jgh, jgh, jgh, jgh, jgh, jgh, jgh, jgh, jzA_721, (100, [], jS0), jgh, jgh, jgh, jgh, jgh, (101, [], [0, 0, 0, 0, 0, 0]), (100, [], (List.replicate 1792 0)), jgh, jgh, jgh, jgh, jgh, jgh, jgh, jgh, (101, [], [0, 0, 0, 0, 0, 0]), jgh, (117, [], [37, 38, 39, 40]), jgh, jgh, jgh, jgh, (7, [(4, 41), (4, 45), (4, 50)], []), jgh, jgh, (114, [], [42]), (4, [(4, 43), (1, 1)], []), (101, [], [0, 0, 0, 0, 0, 0]), (114, [], [49]), (114, [], [49]), (101, [], [0, 0, 0, 0, 0, 0]), (4, [(4, 46), (1, 1)], []), (101, [], [1, 0, 0, 0, 0, 0]), (4, [(4, 48), (1, 1)], []), (100, [], [0])]) (rfl) (by simp only [List.cons.injEq, Prod.mk.injEq, and_true, true_and] <;> ((try unfold jw); (try unfold jwl); omega)) (rfl) ?_
  refine jT_fB [1, 15, 16, 17, 18, 19, 20, 21, 22, 23, 24, 25, 26, 27, 28, 29] 51 (y := 281) (pcN := 2441) (dC := 6) (bc1 := 0) (bc2 := 0) (c1 := 0) (c2 := 0) (as := [(4, 1), (0, 1)]) (asC := [(4, 0), (0, 1)]) (LN := [(6, (0, 0)), (5, (0, 0)), (4, (4, 3)), (3, (4, 2)), (2, (4, 1)), (1, (4, 0)), (0, (6, 0))]) (stN := []) (hsC := jpA_1840) (hsD := jpA_3766) (v := (0, 1)) (st2 := [(0, 1)]) (hs2 := jpA_3814) (jA_281_1024 (d := 0)) (by rfl) (by rfl) (by decide +kernel) (by rfl) (by rfl) (by omega) (by omega) (by omega) (by omega) rfl (by decide +kernel) ?_
  refine jT_xistore (v := (0, 1)) (LN := [(7, (0, 1)), (6, (0, 0)), (5, (0, 0)), (4, (4, 3)), (3, (4, 2)), (2, (4, 1)), (1, (4, 0)), (0, (6, 0))]) (pcN := 2443) jI_379_2441 rfl rfl rfl rfl ?_
  refine jT_xaload_n (v := (4, 1)) (pcN := 2444) jI_379_2443 rfl rfl rfl ?_
  refine jT_fR [1, 15, 16, 17, 18, 19, 20, 21, 22, 23, 24, 25, 26, 27, 28, 29] 51 (y := 186) (pcN := 2447) (dC := 0) (bc1 := 0) (bc2 := 0) (c1 := 0) (c2 := 0) (as := [(4, 1)]) (asC := [(4, 0)]) (LN := [(7, (0, 1)), (6, (0, 0)), (5, (0, 0)), (4, (4, 3)), (3, (4, 2)), (2, (4, 1)), (1, (4, 0)), (0, (6, 0))]) (stN := []) (hsC := jpA_3767) (v := (0, 0)) (st2 := [(0, 0)]) (jA_186_1020 (d := 0)) (by rfl) (by rfl) (by decide +kernel) (by rfl) (by rfl) (by omega) (by omega) (by omega) (by omega) rfl ?_
  refine jT_xiload (v := (0, 0)) (pcN := 2449) jI_379_2447 rfl rfl rfl ?_
  refine jT_xicT (pcN := 2454) jI_379_2449 rfl (by decide +kernel) rfl ?_
  refine jT_xiload (v := (0, 0)) (pcN := 2456) jI_379_2454 rfl rfl rfl ?_
  refine jT_xifF (t := 2471) (pcN := 2459) jI_379_2456 rfl (by decide +kernel) rfl rfl ?_
  refine jT_xaload_n (v := (4, 2)) (pcN := 2460) jI_379_2459 rfl rfl rfl ?_
  refine jT_xiconst (k := 0) (pcN := 2461) jI_379_2460 rfl ?_
  refine jT_lald (x := 1) (a := 2) (j := 0) (fs := []) (X := [1]) jI_379_2461 rfl rfl rfl rfl ?_
  refine jT_eq (LN := [(7, (0, 1)), (6, (0, 0)), (5, (0, 0)), (4, (4, 3)), (3, (4, 2)), (2, (4, 1)), (1, (4, 0)), (0, (6, 0))]) (stN := [(1, 1)]) (hsN := jpA_3814) rfl rfl rfl ?_
  refine jT_xiload (v := (0, 1)) (pcN := 2464) jI_379_2462 rfl rfl rfl ?_
  refine jT_xi2l (x := 1) (z := 1) (pcN := 2465) jI_379_2464 rfl (by decide +kernel) rfl ?_
  refine jT_lcmp (a := 1) (b := 1) (z := 0) (by rfl) (by rfl) (by decide +kernel) (by decide +kernel) (by decide) ?_
  refine jT_xifT (pcN := 2471) jI_379_2466 rfl (by decide +kernel) rfl ?_
  refine jT_xgoto (pcN := 3740) jI_379_2471 rfl ?_
  refine jT_xiinc (x := 0) (z := 5) (LN := [(5, (0, 5)), (7, (0, 1)), (6, (0, 0)), (4, (4, 3)), (3, (4, 2)), (2, (4, 1)), (1, (4, 0)), (0, (6, 0))]) (pcN := 3743) jI_379_3740 rfl rfl (by decide) rfl rfl ?_
  refine jT_xgoto (pcN := 28) jI_379_3743 rfl ?_
  refine jT_xiload (v := (0, 5)) (pcN := 30) jI_379_28 rfl rfl rfl ?_
  refine jT_xaload_n (v := (6, 0)) (pcN := 31) jI_379_30 rfl rfl rfl ?_
  refine jT_adv 1 (pcN := 32) (LN := [(5, (0, 5)), (7, (0, 1)), (6, (0, 0)), (4, (4, 3)), (3, (4, 2)), (2, (4, 1)), (1, (4, 0)), (0, (6, 0))]) (stN := [(0, 5), (0, 5)]) (hsN := jpA_3814) (c1 := 0) (s1 := 0) (c2 := 0) (s2 := 0) (by exact rfl) ?_ (by omega) (by omega)
  refine jT_xiconst (k := 5) (pcN := 33) jI_379_32 rfl ?_
  refine jT_xisub (x := 5) (y := 5) (z := 0) (pcN := 34) jI_379_33 rfl (by decide) rfl ?_
  refine jT_xicT (pcN := 3746) jI_379_34 rfl (by decide +kernel) rfl ?_
  refine jT_xiconst (k := 1) (pcN := 3747) jI_379_3746 rfl ?_
  exact jT_ret rfl (by decide) (by show 44 ≤ 51; decide) (by omega) (by omega) ⟨rfl, rfl⟩
def jpA_3815 : List JC := [jzA_265, jzA_266, (101, [], [0]), jgh, (8, [(4, 30), (4, 31)], []), jgh, jgh, jgh, jgh, jgh, jgh, jgh, jgh, jgh, jzA_721, (100, [], jS0), jgh, jgh, jgh, jgh, jgh, (101, [], [0, 0, 0, 0, 0, 0]), (100, [], (List.replicate 1792 0)), jgh, jgh, jgh, jgh, jgh, jgh, jgh, jgh, (101, [], [0, 0, 0, 0, 0, 0]), jgh, (117, [], [37, 38, 39, 40]), jgh, jgh, jgh, jgh, jgh, (7, [(4, 41), (4, (-1)), (4, (-1))], []), jgh, (114, [], [42]), (4, [(4, 43), (1, 1)], []), (101, [], [0, 0, 0, 0, 0, 0])]
def jpA_3816 : List JC := [jzA_265, jzA_266, (101, [], [1]), jgh, (8, [(4, 30), (4, 31)], []), jgh, jgh, jgh, jgh, jgh, jgh, jgh, jgh, jgh, jzA_721, (100, [], jS0), jgh, jgh, jgh, jgh, jgh, (101, [], [0, 0, 0, 0, 0, 0]), (100, [], (List.replicate 1792 0)), jgh, jgh, jgh, jgh, jgh, jgh, jgh, jgh, (101, [], [0, 0, 0, 0, 0, 0]), jgh, (117, [], [37, 38, 39, 40]), jgh, jgh, jgh, jgh, jgh, (7, [(4, 41), (4, 45), (4, 50)], []), jgh, (114, [], [42]), (4, [(4, 43), (1, 1)], []), (101, [], [0, 0, 0, 0, 0, 0]), (114, [], [49]), (114, [], [49]), (101, [], [0, 0, 0, 0, 0, 0]), (4, [(4, 46), (1, 1)], []), (101, [], [1, 0, 0, 0, 0, 0]), (4, [(4, 48), (1, 1)], []), (100, [], [0])]
def jpA_3817 : List JC := [jzA_265, jzA_3804, (101, [], [1]), jgh, (8, [(4, 30), (4, 31)], []), jgh, jgh, jgh, jgh, jgh, jgh, jgh, jgh, jgh, jzA_721, (100, [], jS0), jgh, jgh, jgh, jgh, jgh, (101, [], [1, 0, 0, 0, 0, 0]), jzA_3760, jgh, jgh, jgh, jgh, jgh, jgh, jgh, jgh, (101, [], [0, 0, 0, 0, 0, 0]), jgh, (117, [], [37, 38, 39, 40]), jgh, jgh, jgh, jgh, jgh, (7, [(4, 41), (4, 45), (4, 50)], []), jgh, (114, [], [42]), (4, [(4, 43), (1, 1)], []), (101, [], [0, 0, 0, 0, 0, 0]), (114, [], [49]), (114, [], [49]), (101, [], [0, 0, 0, 0, 0, 0]), (4, [(4, 46), (1, 1)], []), (101, [], [1, 0, 0, 0, 0, 0]), (4, [(4, 48), (1, 1)], []), (100, [], [0])]
set_option maxRecDepth 100000 in
theorem jL_31_3 {d : Nat} {x0 x1 x2 x3 x4 : Int} (h_x0 : (-2147483648) ≤ x0 ∧ x0 ≤ 2147483647) (h_x1 : 2 ≤ x1 ∧ x1 ≤ 2) (h_x2 : (-2147483648) ≤ x2 ∧ x2 ≤ 2147483647) (h_x3 : (-2147483648) ≤ x3 ∧ x3 ≤ 2147483647) (h_x4 : (-2147483648) ≤ x4 ∧ x4 ≤ 2147483647) : jT [x0, x1, x2, x3, x4] (d + 8) 379 44 2418 [(5, (0, 0)), (4, (4, 3)), (3, (4, 2)), (2, (4, 1)), (1, (4, 0)), (0, (6, 0))] [] jpA_3815 7 19 (fun k v hsN => k = 0 ∧ v = (0, 1)) := by
  refine jT_xaload_n (v := (4, 0)) (pcN := 2419) jI_379_2418 rfl rfl rfl ?_
  refine jT_xaload_n (v := (6, 0)) (pcN := 2420) jI_379_2419 rfl rfl rfl ?_
  refine jT_xiload (v := (0, 0)) (pcN := 2422) jI_379_2420 rfl rfl rfl ?_
  refine jT_xiconst (k := 1) (pcN := 2423) jI_379_2422 rfl ?_
  refine jT_xiadd (x := 0) (y := 1) (z := 1) (pcN := 2424) jI_379_2423 rfl (by decide) rfl ?_
  refine jT_adv 1 (pcN := 2425) (LN := [(5, (0, 0)), (4, (4, 3)), (3, (4, 2)), (2, (4, 1)), (1, (4, 0)), (0, (6, 0))]) (stN := [(0, x1), (4, 0)]) (hsN := jpA_3815) (c1 := 0) (s1 := 0) (c2 := 7) (s2 := 19) (by exact rfl) ?_ (by omega) (by omega)
  refine jT_eq (LN := [(5, (0, 0)), (4, (4, 3)), (3, (4, 2)), (2, (4, 1)), (1, (4, 0)), (0, (6, 0))]) (stN := [(0, 2), (4, 0)]) (hsN := [jzA_265, jzA_266, (101, [], [0]), jgh, (8, [(4, 30), (4, 31)], []), jgh, jgh, jgh, jgh, jgh, jgh, jgh, jgh, jgh, jzA_721, (100, [], jS0), jgh, jgh, jgh, jgh, jgh, (101, [], [0, 0, 0, 0, 0, 0]), (100, [], (List.replicate 1792 0)), jgh, jgh, jgh, jgh, jgh, jgh, jgh, jgh, (101, [], [0, 0, 0, 0, 0, 0]), jgh, (117, [], [37, 38, 39, 40]), jgh, jgh, jgh, jgh, jgh, (7, [(4, 41), (4, (-1)), (4, (-1))], []), jgh, (114, [], [42]), (4, [(4, 43), (1, 1)], []), (101, [], [0, 0, 0, 0, 0, 0])]) (rfl) (by simp only [List.cons.injEq, Prod.mk.injEq, and_true, true_and] <;> ((try unfold jw); (try unfold jwl); omega)) (rfl) ?_
  refine jT_xaload_n (v := (4, 2)) (pcN := 2426) jI_379_2425 rfl rfl rfl ?_
  refine jT_fB [0, 2, 4, 5, 6, 7, 8, 9, 10, 11, 12, 13, 14, 30, 31, 32, 33, 34, 35, 36, 37, 38, 39, 40, 41, 42, 43] 44 (y := 355) (pcN := 2429) (dC := 7) (bc1 := 7) (bc2 := 19) (c1 := 0) (c2 := 0) (as := [(4, 0), (0, 2), (4, 2)]) (asC := [(4, 0), (0, 2), (4, 1)]) (LN := [(5, (0, 0)), (4, (4, 3)), (3, (4, 2)), (2, (4, 1)), (1, (4, 0)), (0, (6, 0))]) (stN := []) (hsC := jpA_3775) (hsD := jpA_3777) (v := (0, 0)) (st2 := [(0, 0)]) (hs2 := jpA_3816) (jA_355_1026 (d := 0)) (by rfl) (by rfl) (by decide +kernel) (by rfl) (by rfl) (by omega) (by omega) (by omega) (by omega) rfl (by decide +kernel) ?_
  refine jT_xistore (v := (0, 0)) (LN := [(6, (0, 0)), (5, (0, 0)), (4, (4, 3)), (3, (4, 2)), (2, (4, 1)), (1, (4, 0)), (0, (6, 0))]) (pcN := 2431) jI_379_2429 rfl rfl rfl rfl ?_
  refine jT_xaload_n (v := (4, 1)) (pcN := 2432) jI_379_2431 rfl rfl rfl ?_
  refine jT_xaload_n (v := (6, 0)) (pcN := 2433) jI_379_2432 rfl rfl rfl ?_
  refine jT_xiload (v := (0, 0)) (pcN := 2435) jI_379_2433 rfl rfl rfl ?_
  refine jT_xiconst (k := 1) (pcN := 2436) jI_379_2435 rfl ?_
  refine jT_xiadd (x := 0) (y := 1) (z := 1) (pcN := 2437) jI_379_2436 rfl (by decide) rfl ?_
  refine jT_adv 1 (pcN := 2438) (LN := [(6, (0, 0)), (5, (0, 0)), (4, (4, 3)), (3, (4, 2)), (2, (4, 1)), (1, (4, 0)), (0, (6, 0))]) (stN := [(0, x1), (4, 1)]) (hsN := jpA_3816) (c1 := 0) (s1 := 0) (c2 := 0) (s2 := 0) (by exact rfl) ?_ (by omega) (by omega)
  refine jT_eq (LN := [(6, (0, 0)), (5, (0, 0)), (4, (4, 3)), (3, (4, 2)), (2, (4, 1)), (1, (4, 0)), (0, (6, 0))]) (stN := [(0, 2), (4, 1)]) (hsN := [jzA_265, jzA_266, (101, [], [1]), jgh, (8, [(4, 30), (4, 31)], []), jgh, jgh, jgh, jgh, jgh, jgh, jgh, jgh, jgh, jzA_721, (100, [], jS0), jgh, jgh, jgh, jgh, jgh, (101, [], [0, 0, 0, 0, 0, 0]), (100, [], (List.replicate 1792 0)), jgh, jgh, jgh, jgh, jgh, jgh, jgh, jgh, (101, [], [0, 0, 0, 0, 0, 0]), jgh, (117, [], [37, 38, 39, 40]), jgh, jgh, jgh, jgh, jgh, (7, [(4, 41), (4, 45), (4, 50)], []), jgh, (114, [], [42]), (4, [(4, 43), (1, 1)], []), (101, [], [0, 0, 0, 0, 0, 0]), (114, [], [49]), (114, [], [49]), (101, [], [0, 0, 0, 0, 0, 0]), (4, [(4, 46), (1, 1)], []), (101, [], [1, 0, 0, 0, 0, 0]), (4, [(4, 48), (1, 1)], []), (100, [], [0])]) (rfl) (by simp only [List.cons.injEq, Prod.mk.injEq, and_true, true_and] <;> ((try unfold jw); (try unfold jwl); omega)) (rfl) ?_
  refine jT_fB [1, 15, 16, 17, 18, 19, 20, 21, 22, 23, 24, 25, 26, 27, 28, 29] 51 (y := 281) (pcN := 2441) (dC := 6) (bc1 := 0) (bc2 := 0) (c1 := 0) (c2 := 0) (as := [(4, 1), (0, 2)]) (asC := [(4, 0), (0, 2)]) (LN := [(6, (0, 0)), (5, (0, 0)), (4, (4, 3)), (3, (4, 2)), (2, (4, 1)), (1, (4, 0)), (0, (6, 0))]) (stN := []) (hsC := jpA_1840) (hsD := jpA_3766) (v := (0, 1)) (st2 := [(0, 1)]) (hs2 := jpA_3817) (jA_281_1028 (d := 0)) (by rfl) (by rfl) (by decide +kernel) (by rfl) (by rfl) (by omega) (by omega) (by omega) (by omega) rfl (by decide +kernel) ?_
  refine jT_xistore (v := (0, 1)) (LN := [(7, (0, 1)), (6, (0, 0)), (5, (0, 0)), (4, (4, 3)), (3, (4, 2)), (2, (4, 1)), (1, (4, 0)), (0, (6, 0))]) (pcN := 2443) jI_379_2441 rfl rfl rfl rfl ?_
  refine jT_xaload_n (v := (4, 1)) (pcN := 2444) jI_379_2443 rfl rfl rfl ?_
  refine jT_fR [1, 15, 16, 17, 18, 19, 20, 21, 22, 23, 24, 25, 26, 27, 28, 29] 51 (y := 186) (pcN := 2447) (dC := 0) (bc1 := 0) (bc2 := 0) (c1 := 0) (c2 := 0) (as := [(4, 1)]) (asC := [(4, 0)]) (LN := [(7, (0, 1)), (6, (0, 0)), (5, (0, 0)), (4, (4, 3)), (3, (4, 2)), (2, (4, 1)), (1, (4, 0)), (0, (6, 0))]) (stN := []) (hsC := jpA_3767) (v := (0, 0)) (st2 := [(0, 0)]) (jA_186_1020 (d := 0)) (by rfl) (by rfl) (by decide +kernel) (by rfl) (by rfl) (by omega) (by omega) (by omega) (by omega) rfl ?_
  refine jT_xiload (v := (0, 0)) (pcN := 2449) jI_379_2447 rfl rfl rfl ?_
  refine jT_xicT (pcN := 2454) jI_379_2449 rfl (by decide +kernel) rfl ?_
  refine jT_xiload (v := (0, 0)) (pcN := 2456) jI_379_2454 rfl rfl rfl ?_
  refine jT_xifF (t := 2471) (pcN := 2459) jI_379_2456 rfl (by decide +kernel) rfl rfl ?_
  refine jT_xaload_n (v := (4, 2)) (pcN := 2460) jI_379_2459 rfl rfl rfl ?_
  refine jT_xiconst (k := 0) (pcN := 2461) jI_379_2460 rfl ?_
  refine jT_lald (x := 1) (a := 2) (j := 0) (fs := []) (X := [1]) jI_379_2461 rfl rfl rfl rfl ?_
  refine jT_eq (LN := [(7, (0, 1)), (6, (0, 0)), (5, (0, 0)), (4, (4, 3)), (3, (4, 2)), (2, (4, 1)), (1, (4, 0)), (0, (6, 0))]) (stN := [(1, 1)]) (hsN := jpA_3817) rfl rfl rfl ?_
  refine jT_xiload (v := (0, 1)) (pcN := 2464) jI_379_2462 rfl rfl rfl ?_
  refine jT_xi2l (x := 1) (z := 1) (pcN := 2465) jI_379_2464 rfl (by decide +kernel) rfl ?_
  refine jT_lcmp (a := 1) (b := 1) (z := 0) (by rfl) (by rfl) (by decide +kernel) (by decide +kernel) (by decide) ?_
  refine jT_xifT (pcN := 2471) jI_379_2466 rfl (by decide +kernel) rfl ?_
  refine jT_xgoto (pcN := 3740) jI_379_2471 rfl ?_
  refine jT_xiinc (x := 0) (z := 5) (LN := [(5, (0, 5)), (7, (0, 1)), (6, (0, 0)), (4, (4, 3)), (3, (4, 2)), (2, (4, 1)), (1, (4, 0)), (0, (6, 0))]) (pcN := 3743) jI_379_3740 rfl rfl (by decide) rfl rfl ?_
  refine jT_xgoto (pcN := 28) jI_379_3743 rfl ?_
  refine jT_xiload (v := (0, 5)) (pcN := 30) jI_379_28 rfl rfl rfl ?_
  refine jT_xaload_n (v := (6, 0)) (pcN := 31) jI_379_30 rfl rfl rfl ?_
  refine jT_adv 1 (pcN := 32) (LN := [(5, (0, 5)), (7, (0, 1)), (6, (0, 0)), (4, (4, 3)), (3, (4, 2)), (2, (4, 1)), (1, (4, 0)), (0, (6, 0))]) (stN := [(0, 5), (0, 5)]) (hsN := jpA_3817) (c1 := 0) (s1 := 0) (c2 := 0) (s2 := 0) (by exact rfl) ?_ (by omega) (by omega)
  refine jT_xiconst (k := 5) (pcN := 33) jI_379_32 rfl ?_
  refine jT_xisub (x := 5) (y := 5) (z := 0) (pcN := 34) jI_379_33 rfl (by decide) rfl ?_
  refine jT_xicT (pcN := 3746) jI_379_34 rfl (by decide +kernel) rfl ?_
  refine jT_xiconst (k := 1) (pcN := 3747) jI_379_3746 rfl ?_
  exact jT_ret rfl (by decide) (by show 44 ≤ 51; decide) (by omega) (by omega) ⟨rfl, rfl⟩
def jpA_3818 : List JC := [jzA_265, jzA_266, (101, [], [0]), jgh, (8, [(4, 30), (4, 31)], []), jgh, jgh, jgh, jgh, jgh, jgh, jgh, jgh, jgh, jzA_721, (100, [], jS0), jgh, jgh, jgh, jgh, jgh, (101, [], [0, 0, 0, 0, 0, 0]), (100, [], (List.replicate 1792 0)), jgh, jgh, jgh, jgh, jgh, jgh, jgh, jgh, (101, [], [0, 0, 0, 0, 0, 0]), jgh, (117, [], [37, 38, 39, 40]), jgh, jgh, jgh, jgh, jgh, jgh, (7, [(4, 41), (4, (-1)), (4, (-1))], []), (114, [], [42]), (4, [(4, 43), (1, 1)], []), (101, [], [0, 0, 0, 0, 0, 0])]
def jpA_3819 : List JC := [jzA_265, jzA_266, (101, [], [1]), jgh, (8, [(4, 30), (4, 31)], []), jgh, jgh, jgh, jgh, jgh, jgh, jgh, jgh, jgh, jzA_721, (100, [], jS0), jgh, jgh, jgh, jgh, jgh, (101, [], [0, 0, 0, 0, 0, 0]), (100, [], (List.replicate 1792 0)), jgh, jgh, jgh, jgh, jgh, jgh, jgh, jgh, (101, [], [0, 0, 0, 0, 0, 0]), jgh, (117, [], [37, 38, 39, 40]), jgh, jgh, jgh, jgh, jgh, jgh, (7, [(4, 41), (4, 45), (4, 50)], []), (114, [], [42]), (4, [(4, 43), (1, 1)], []), (101, [], [0, 0, 0, 0, 0, 0]), (114, [], [49]), (114, [], [49]), (101, [], [0, 0, 0, 0, 0, 0]), (4, [(4, 46), (1, 1)], []), (101, [], [1, 0, 0, 0, 0, 0]), (4, [(4, 48), (1, 1)], []), (100, [], [0])]
def jpA_3820 : List JC := [jzA_265, jzA_3804, (101, [], [1]), jgh, (8, [(4, 30), (4, 31)], []), jgh, jgh, jgh, jgh, jgh, jgh, jgh, jgh, jgh, jzA_721, (100, [], jS0), jgh, jgh, jgh, jgh, jgh, (101, [], [1, 0, 0, 0, 0, 0]), jzA_3760, jgh, jgh, jgh, jgh, jgh, jgh, jgh, jgh, (101, [], [0, 0, 0, 0, 0, 0]), jgh, (117, [], [37, 38, 39, 40]), jgh, jgh, jgh, jgh, jgh, jgh, (7, [(4, 41), (4, 45), (4, 50)], []), (114, [], [42]), (4, [(4, 43), (1, 1)], []), (101, [], [0, 0, 0, 0, 0, 0]), (114, [], [49]), (114, [], [49]), (101, [], [0, 0, 0, 0, 0, 0]), (4, [(4, 46), (1, 1)], []), (101, [], [1, 0, 0, 0, 0, 0]), (4, [(4, 48), (1, 1)], []), (100, [], [0])]
set_option maxRecDepth 100000 in
theorem jL_31_4 {d : Nat} {x0 x1 x2 x3 x4 : Int} (h_x0 : (-2147483648) ≤ x0 ∧ x0 ≤ 2147483647) (h_x1 : 3 ≤ x1 ∧ x1 ≤ 3) (h_x2 : (-2147483648) ≤ x2 ∧ x2 ≤ 2147483647) (h_x3 : (-2147483648) ≤ x3 ∧ x3 ≤ 2147483647) (h_x4 : (-2147483648) ≤ x4 ∧ x4 ≤ 2147483647) : jT [x0, x1, x2, x3, x4] (d + 8) 379 44 2418 [(5, (0, 0)), (4, (4, 3)), (3, (4, 2)), (2, (4, 1)), (1, (4, 0)), (0, (6, 0))] [] jpA_3818 7 19 (fun k v hsN => k = 0 ∧ v = (0, 1)) := by
  refine jT_xaload_n (v := (4, 0)) (pcN := 2419) jI_379_2418 rfl rfl rfl ?_
  refine jT_xaload_n (v := (6, 0)) (pcN := 2420) jI_379_2419 rfl rfl rfl ?_
  refine jT_xiload (v := (0, 0)) (pcN := 2422) jI_379_2420 rfl rfl rfl ?_
  refine jT_xiconst (k := 1) (pcN := 2423) jI_379_2422 rfl ?_
  refine jT_xiadd (x := 0) (y := 1) (z := 1) (pcN := 2424) jI_379_2423 rfl (by decide) rfl ?_
  refine jT_adv 1 (pcN := 2425) (LN := [(5, (0, 0)), (4, (4, 3)), (3, (4, 2)), (2, (4, 1)), (1, (4, 0)), (0, (6, 0))]) (stN := [(0, x1), (4, 0)]) (hsN := jpA_3818) (c1 := 0) (s1 := 0) (c2 := 7) (s2 := 19) (by exact rfl) ?_ (by omega) (by omega)
  refine jT_eq (LN := [(5, (0, 0)), (4, (4, 3)), (3, (4, 2)), (2, (4, 1)), (1, (4, 0)), (0, (6, 0))]) (stN := [(0, 3), (4, 0)]) (hsN := [jzA_265, jzA_266, (101, [], [0]), jgh, (8, [(4, 30), (4, 31)], []), jgh, jgh, jgh, jgh, jgh, jgh, jgh, jgh, jgh, jzA_721, (100, [], jS0), jgh, jgh, jgh, jgh, jgh, (101, [], [0, 0, 0, 0, 0, 0]), (100, [], (List.replicate 1792 0)), jgh, jgh, jgh, jgh, jgh, jgh, jgh, jgh, (101, [], [0, 0, 0, 0, 0, 0]), jgh, (117, [], [37, 38, 39, 40]), jgh, jgh, jgh, jgh, jgh, jgh, (7, [(4, 41), (4, (-1)), (4, (-1))], []), (114, [], [42]), (4, [(4, 43), (1, 1)], []), (101, [], [0, 0, 0, 0, 0, 0])]) (rfl) (by simp only [List.cons.injEq, Prod.mk.injEq, and_true, true_and] <;> ((try unfold jw); (try unfold jwl); omega)) (rfl) ?_
  refine jT_xaload_n (v := (4, 2)) (pcN := 2426) jI_379_2425 rfl rfl rfl ?_
  refine jT_fB [0, 2, 4, 5, 6, 7, 8, 9, 10, 11, 12, 13, 14, 30, 31, 32, 33, 34, 35, 36, 37, 38, 39, 40, 41, 42, 43] 44 (y := 355) (pcN := 2429) (dC := 7) (bc1 := 7) (bc2 := 19) (c1 := 0) (c2 := 0) (as := [(4, 0), (0, 3), (4, 2)]) (asC := [(4, 0), (0, 3), (4, 1)]) (LN := [(5, (0, 0)), (4, (4, 3)), (3, (4, 2)), (2, (4, 1)), (1, (4, 0)), (0, (6, 0))]) (stN := []) (hsC := jpA_3780) (hsD := jpA_3782) (v := (0, 0)) (st2 := [(0, 0)]) (hs2 := jpA_3819) (jA_355_1030 (d := 0)) (by rfl) (by rfl) (by decide +kernel) (by rfl) (by rfl) (by omega) (by omega) (by omega) (by omega) rfl (by decide +kernel) ?_
  refine jT_xistore (v := (0, 0)) (LN := [(6, (0, 0)), (5, (0, 0)), (4, (4, 3)), (3, (4, 2)), (2, (4, 1)), (1, (4, 0)), (0, (6, 0))]) (pcN := 2431) jI_379_2429 rfl rfl rfl rfl ?_
  refine jT_xaload_n (v := (4, 1)) (pcN := 2432) jI_379_2431 rfl rfl rfl ?_
  refine jT_xaload_n (v := (6, 0)) (pcN := 2433) jI_379_2432 rfl rfl rfl ?_
  refine jT_xiload (v := (0, 0)) (pcN := 2435) jI_379_2433 rfl rfl rfl ?_
  refine jT_xiconst (k := 1) (pcN := 2436) jI_379_2435 rfl ?_
  refine jT_xiadd (x := 0) (y := 1) (z := 1) (pcN := 2437) jI_379_2436 rfl (by decide) rfl ?_
  refine jT_adv 1 (pcN := 2438) (LN := [(6, (0, 0)), (5, (0, 0)), (4, (4, 3)), (3, (4, 2)), (2, (4, 1)), (1, (4, 0)), (0, (6, 0))]) (stN := [(0, x1), (4, 1)]) (hsN := jpA_3819) (c1 := 0) (s1 := 0) (c2 := 0) (s2 := 0) (by exact rfl) ?_ (by omega) (by omega)
  refine jT_eq (LN := [(6, (0, 0)), (5, (0, 0)), (4, (4, 3)), (3, (4, 2)), (2, (4, 1)), (1, (4, 0)), (0, (6, 0))]) (stN := [(0, 3), (4, 1)]) (hsN := [jzA_265, jzA_266, (101, [], [1]), jgh, (8, [(4, 30), (4, 31)], []), jgh, jgh, jgh, jgh, jgh, jgh, jgh, jgh, jgh, jzA_721, (100, [], jS0), jgh, jgh, jgh, jgh, jgh, (101, [], [0, 0, 0, 0, 0, 0]), (100, [], (List.replicate 1792 0)), jgh, jgh, jgh, jgh, jgh, jgh, jgh, jgh, (101, [], [0, 0, 0, 0, 0, 0]), jgh, (117, [], [37, 38, 39, 40]), jgh, jgh, jgh, jgh, jgh, jgh, (7, [(4, 41), (4, 45), (4, 50)], []), (114, [], [42]), (4, [(4, 43), (1, 1)], []), (101, [], [0, 0, 0, 0, 0, 0]), (114, [], [49]), (114, [], [49]), (101, [], [0, 0, 0, 0, 0, 0]), (4, [(4, 46), (1, 1)], []), (101, [], [1, 0, 0, 0, 0, 0]), (4, [(4, 48), (1, 1)], []), (100, [], [0])]) (rfl) (by simp only [List.cons.injEq, Prod.mk.injEq, and_true, true_and] <;> ((try unfold jw); (try unfold jwl); omega)) (rfl) ?_
  refine jT_fB [1, 15, 16, 17, 18, 19, 20, 21, 22, 23, 24, 25, 26, 27, 28, 29] 51 (y := 281) (pcN := 2441) (dC := 6) (bc1 := 0) (bc2 := 0) (c1 := 0) (c2 := 0) (as := [(4, 1), (0, 3)]) (asC := [(4, 0), (0, 3)]) (LN := [(6, (0, 0)), (5, (0, 0)), (4, (4, 3)), (3, (4, 2)), (2, (4, 1)), (1, (4, 0)), (0, (6, 0))]) (stN := []) (hsC := jpA_1840) (hsD := jpA_3766) (v := (0, 1)) (st2 := [(0, 1)]) (hs2 := jpA_3820) (jA_281_1032 (d := 0)) (by rfl) (by rfl) (by decide +kernel) (by rfl) (by rfl) (by omega) (by omega) (by omega) (by omega) rfl (by decide +kernel) ?_
  refine jT_xistore (v := (0, 1)) (LN := [(7, (0, 1)), (6, (0, 0)), (5, (0, 0)), (4, (4, 3)), (3, (4, 2)), (2, (4, 1)), (1, (4, 0)), (0, (6, 0))]) (pcN := 2443) jI_379_2441 rfl rfl rfl rfl ?_
  refine jT_xaload_n (v := (4, 1)) (pcN := 2444) jI_379_2443 rfl rfl rfl ?_
  refine jT_fR [1, 15, 16, 17, 18, 19, 20, 21, 22, 23, 24, 25, 26, 27, 28, 29] 51 (y := 186) (pcN := 2447) (dC := 0) (bc1 := 0) (bc2 := 0) (c1 := 0) (c2 := 0) (as := [(4, 1)]) (asC := [(4, 0)]) (LN := [(7, (0, 1)), (6, (0, 0)), (5, (0, 0)), (4, (4, 3)), (3, (4, 2)), (2, (4, 1)), (1, (4, 0)), (0, (6, 0))]) (stN := []) (hsC := jpA_3767) (v := (0, 0)) (st2 := [(0, 0)]) (jA_186_1020 (d := 0)) (by rfl) (by rfl) (by decide +kernel) (by rfl) (by rfl) (by omega) (by omega) (by omega) (by omega) rfl ?_
  refine jT_xiload (v := (0, 0)) (pcN := 2449) jI_379_2447 rfl rfl rfl ?_
  refine jT_xicT (pcN := 2454) jI_379_2449 rfl (by decide +kernel) rfl ?_
  refine jT_xiload (v := (0, 0)) (pcN := 2456) jI_379_2454 rfl rfl rfl ?_
  refine jT_xifF (t := 2471) (pcN := 2459) jI_379_2456 rfl (by decide +kernel) rfl rfl ?_
  refine jT_xaload_n (v := (4, 2)) (pcN := 2460) jI_379_2459 rfl rfl rfl ?_
  refine jT_xiconst (k := 0) (pcN := 2461) jI_379_2460 rfl ?_
  refine jT_lald (x := 1) (a := 2) (j := 0) (fs := []) (X := [1]) jI_379_2461 rfl rfl rfl rfl ?_
  refine jT_eq (LN := [(7, (0, 1)), (6, (0, 0)), (5, (0, 0)), (4, (4, 3)), (3, (4, 2)), (2, (4, 1)), (1, (4, 0)), (0, (6, 0))]) (stN := [(1, 1)]) (hsN := jpA_3820) rfl rfl rfl ?_
  refine jT_xiload (v := (0, 1)) (pcN := 2464) jI_379_2462 rfl rfl rfl ?_
  refine jT_xi2l (x := 1) (z := 1) (pcN := 2465) jI_379_2464 rfl (by decide +kernel) rfl ?_
  refine jT_lcmp (a := 1) (b := 1) (z := 0) (by rfl) (by rfl) (by decide +kernel) (by decide +kernel) (by decide) ?_
  refine jT_xifT (pcN := 2471) jI_379_2466 rfl (by decide +kernel) rfl ?_
  refine jT_xgoto (pcN := 3740) jI_379_2471 rfl ?_
  refine jT_xiinc (x := 0) (z := 5) (LN := [(5, (0, 5)), (7, (0, 1)), (6, (0, 0)), (4, (4, 3)), (3, (4, 2)), (2, (4, 1)), (1, (4, 0)), (0, (6, 0))]) (pcN := 3743) jI_379_3740 rfl rfl (by decide) rfl rfl ?_
  refine jT_xgoto (pcN := 28) jI_379_3743 rfl ?_
  refine jT_xiload (v := (0, 5)) (pcN := 30) jI_379_28 rfl rfl rfl ?_
  refine jT_xaload_n (v := (6, 0)) (pcN := 31) jI_379_30 rfl rfl rfl ?_
  refine jT_adv 1 (pcN := 32) (LN := [(5, (0, 5)), (7, (0, 1)), (6, (0, 0)), (4, (4, 3)), (3, (4, 2)), (2, (4, 1)), (1, (4, 0)), (0, (6, 0))]) (stN := [(0, 5), (0, 5)]) (hsN := jpA_3820) (c1 := 0) (s1 := 0) (c2 := 0) (s2 := 0) (by exact rfl) ?_ (by omega) (by omega)
  refine jT_xiconst (k := 5) (pcN := 33) jI_379_32 rfl ?_
  refine jT_xisub (x := 5) (y := 5) (z := 0) (pcN := 34) jI_379_33 rfl (by decide) rfl ?_
  refine jT_xicT (pcN := 3746) jI_379_34 rfl (by decide +kernel) rfl ?_
  refine jT_xiconst (k := 1) (pcN := 3747) jI_379_3746 rfl ?_
  exact jT_ret rfl (by decide) (by show 44 ≤ 51; decide) (by omega) (by omega) ⟨rfl, rfl⟩
set_option maxRecDepth 100000 in
theorem jL_31_5 {d : Nat} {x0 x1 x2 x3 x4 : Int} (h_x0 : (-2147483648) ≤ x0 ∧ x0 ≤ 2147483647) (h_x1 : 4 ≤ x1 ∧ x1 ≤ 2147483647) (h_x2 : (-2147483648) ≤ x2 ∧ x2 ≤ 2147483647) (h_x3 : (-2147483648) ≤ x3 ∧ x3 ≤ 2147483647) (h_x4 : (-2147483648) ≤ x4 ∧ x4 ≤ 2147483647) : jT [x0, x1, x2, x3, x4] (d + 3) 379 30 2418 [(5, (0, 0)), (4, (4, 3)), (3, (4, 2)), (2, (4, 1)), (1, (4, 0)), (0, (6, 0))] [] jpA_267 1 6 (fun k v hsN => k = 0 ∧ v = (0, 1)) := by
  refine jT_xaload_n (v := (4, 0)) (pcN := 2419) jI_379_2418 rfl rfl rfl ?_
  refine jT_xaload_n (v := (6, 0)) (pcN := 2420) jI_379_2419 rfl rfl rfl ?_
  refine jT_xiload (v := (0, 0)) (pcN := 2422) jI_379_2420 rfl rfl rfl ?_
  refine jT_xiconst (k := 1) (pcN := 2423) jI_379_2422 rfl ?_
  refine jT_xiadd (x := 0) (y := 1) (z := 1) (pcN := 2424) jI_379_2423 rfl (by decide) rfl ?_
  refine jT_adv 1 (pcN := 2425) (LN := [(5, (0, 0)), (4, (4, 3)), (3, (4, 2)), (2, (4, 1)), (1, (4, 0)), (0, (6, 0))]) (stN := [(0, x1), (4, 0)]) (hsN := jpA_267) (c1 := 0) (s1 := 0) (c2 := 1) (s2 := 6) (by exact rfl) ?_ (by omega) (by omega)
  refine jT_xaload_n (v := (4, 2)) (pcN := 2426) jI_379_2425 rfl rfl rfl ?_
  refine jT_fR [0, 2, 4, 5, 6, 7, 8, 9, 10, 11, 12, 13, 14] 30 (y := 355) (pcN := 2429) (dC := 2) (bc1 := 1) (bc2 := 6) (c1 := 0) (c2 := 0) (as := [(4, 0), (0, x1), (4, 2)]) (asC := [(4, 0), (0, x1), (4, 1)]) (LN := [(5, (0, 0)), (4, (4, 3)), (3, (4, 2)), (2, (4, 1)), (1, (4, 0)), (0, (6, 0))]) (stN := []) (hsC := jpA_15) (v := (0, 1)) (st2 := [(0, 1)]) (jA_355_1034 (d := 0) (by omega)) (by rfl) (by rfl) (by decide +kernel) (by rfl) (by rfl) (by omega) (by omega) (by omega) (by omega) rfl ?_
  refine jT_xistore (v := (0, 1)) (LN := [(6, (0, 1)), (5, (0, 0)), (4, (4, 3)), (3, (4, 2)), (2, (4, 1)), (1, (4, 0)), (0, (6, 0))]) (pcN := 2431) jI_379_2429 rfl rfl rfl rfl ?_
  refine jT_xaload_n (v := (4, 1)) (pcN := 2432) jI_379_2431 rfl rfl rfl ?_
  refine jT_xaload_n (v := (6, 0)) (pcN := 2433) jI_379_2432 rfl rfl rfl ?_
  refine jT_xiload (v := (0, 0)) (pcN := 2435) jI_379_2433 rfl rfl rfl ?_
  refine jT_xiconst (k := 1) (pcN := 2436) jI_379_2435 rfl ?_
  refine jT_xiadd (x := 0) (y := 1) (z := 1) (pcN := 2437) jI_379_2436 rfl (by decide) rfl ?_
  refine jT_adv 1 (pcN := 2438) (LN := [(6, (0, 1)), (5, (0, 0)), (4, (4, 3)), (3, (4, 2)), (2, (4, 1)), (1, (4, 0)), (0, (6, 0))]) (stN := [(0, x1), (4, 1)]) (hsN := jpA_267) (c1 := 0) (s1 := 0) (c2 := 0) (s2 := 0) (by exact rfl) ?_ (by omega) (by omega)
  refine jT_fB [1, 15, 16, 17, 18, 19, 20, 21, 22, 23, 24, 25, 26, 27, 28, 29] 30 (y := 281) (pcN := 2441) (dC := 2) (bc1 := 0) (bc2 := 0) (c1 := 0) (c2 := 0) (as := [(4, 1), (0, x1)]) (asC := [(4, 0), (0, x1)]) (LN := [(6, (0, 1)), (5, (0, 0)), (4, (4, 3)), (3, (4, 2)), (2, (4, 1)), (1, (4, 0)), (0, (6, 0))]) (stN := []) (hsC := jpA_22) (hsD := jpA_20) (v := (0, 0)) (st2 := [(0, 0)]) (hs2 := jpA_306) (jA_281_1035 (d := 0) (by omega)) (by rfl) (by rfl) (by decide +kernel) (by rfl) (by rfl) (by omega) (by omega) (by omega) (by omega) rfl (by decide +kernel) ?_
  refine jT_xistore (v := (0, 0)) (LN := [(7, (0, 0)), (6, (0, 1)), (5, (0, 0)), (4, (4, 3)), (3, (4, 2)), (2, (4, 1)), (1, (4, 0)), (0, (6, 0))]) (pcN := 2443) jI_379_2441 rfl rfl rfl rfl ?_
  refine jT_xaload_n (v := (4, 1)) (pcN := 2444) jI_379_2443 rfl rfl rfl ?_
  refine jT_fR [1, 15, 16, 17, 18, 19, 20, 21, 22, 23, 24, 25, 26, 27, 28, 29] 30 (y := 186) (pcN := 2447) (dC := 0) (bc1 := 0) (bc2 := 0) (c1 := 0) (c2 := 0) (as := [(4, 1)]) (asC := [(4, 0)]) (LN := [(7, (0, 0)), (6, (0, 1)), (5, (0, 0)), (4, (4, 3)), (3, (4, 2)), (2, (4, 1)), (1, (4, 0)), (0, (6, 0))]) (stN := []) (hsC := jpA_20) (v := (0, 1)) (st2 := [(0, 1)]) (jA_186_8 (d := 0)) (by rfl) (by rfl) (by decide +kernel) (by rfl) (by rfl) (by omega) (by omega) (by omega) (by omega) rfl ?_
  refine jT_xiload (v := (0, 1)) (pcN := 2449) jI_379_2447 rfl rfl rfl ?_
  refine jT_xicT (pcN := 2454) jI_379_2449 rfl (by decide +kernel) rfl ?_
  refine jT_xiload (v := (0, 1)) (pcN := 2456) jI_379_2454 rfl rfl rfl ?_
  refine jT_xifT (pcN := 2471) jI_379_2456 rfl (by decide +kernel) rfl ?_
  refine jT_xgoto (pcN := 3740) jI_379_2471 rfl ?_
  refine jT_xiinc (x := 0) (z := 5) (LN := [(5, (0, 5)), (7, (0, 0)), (6, (0, 1)), (4, (4, 3)), (3, (4, 2)), (2, (4, 1)), (1, (4, 0)), (0, (6, 0))]) (pcN := 3743) jI_379_3740 rfl rfl (by decide) rfl rfl ?_
  refine jT_xgoto (pcN := 28) jI_379_3743 rfl ?_
  refine jT_xiload (v := (0, 5)) (pcN := 30) jI_379_28 rfl rfl rfl ?_
  refine jT_xaload_n (v := (6, 0)) (pcN := 31) jI_379_30 rfl rfl rfl ?_
  refine jT_adv 1 (pcN := 32) (LN := [(5, (0, 5)), (7, (0, 0)), (6, (0, 1)), (4, (4, 3)), (3, (4, 2)), (2, (4, 1)), (1, (4, 0)), (0, (6, 0))]) (stN := [(0, 5), (0, 5)]) (hsN := jpA_306) (c1 := 0) (s1 := 0) (c2 := 0) (s2 := 0) (by exact rfl) ?_ (by omega) (by omega)
  refine jT_xiconst (k := 5) (pcN := 33) jI_379_32 rfl ?_
  refine jT_xisub (x := 5) (y := 5) (z := 0) (pcN := 34) jI_379_33 rfl (by decide) rfl ?_
  refine jT_xicT (pcN := 3746) jI_379_34 rfl (by decide +kernel) rfl ?_
  refine jT_xiconst (k := 1) (pcN := 3747) jI_379_3746 rfl ?_
  exact jT_ret rfl (by decide) (by show 30 ≤ 30; decide) (by omega) (by omega) ⟨rfl, rfl⟩
theorem jI_152_0 : jmI (jm 152) 0 = (.aload_n 0, 1) := by rfl
theorem jI_152_1 : jmI (jm 152) 1 = (.iload_n 1, 1) := by rfl
theorem jI_152_2 : jmI (jm 152) 2 = (.iconst 4, 1) := by rfl
theorem jA_152_1036 {xs : List Int} {d : Nat} {x1 x2 : Int} (h_x1 : (-2147483648) ≤ x1 ∧ x1 ≤ (-1)) (h_x2 : (-2147483648) ≤ x2 ∧ x2 ≤ 2147483647) : jT xs (d + 1) 152 12 0 [(0, (4, 0)), (1, (0, x1)), (2, (0, x2))] [] jpA_6 1 6 (fun k v hsN => k = 1 ∧ v = (0, 0) ∧ hsN = jpA_6 ++ []) := by
  refine jT_xaload_n (v := (4, 0)) (pcN := 1) jI_152_0 rfl rfl rfl ?_
  refine jT_xiload_n (v := (0, x1)) (pcN := 2) jI_152_1 rfl rfl rfl ?_
  refine jT_xiconst (k := 4) (pcN := 3) jI_152_2 rfl ?_
  exact jT_fX [0] 12 (y := 115) (pcN := 6) (dC := 0) (bc1 := 1) (bc2 := 6) (as := [(4, 0), (0, x1), (0, 4)]) (asC := [(4, 0), (0, x1), (0, 4)]) (LN := [(0, (4, 0)), (1, (0, x1)), (2, (0, x2))]) (stN := []) (hsC := [jgh]) (e := 0) (jA_115_310 (d := 0) (by omega)) (by rfl) (by rfl) (by decide +kernel) (by rfl) (by rfl) (by omega) (by omega) (by omega) (by omega) ⟨rfl, ⟨rfl, rfl, rfl⟩⟩
theorem jI_356_0 : jmI (jm 356) 0 = (.aload_n 3, 1) := by rfl
theorem jI_356_1 : jmI (jm 356) 1 = (.iconst 0, 1) := by rfl
theorem jI_356_2 : jmI (jm 356) 2 = (.aload_n 0, 1) := by rfl
theorem jI_356_3 : jmI (jm 356) 3 = (.iload_n 1, 1) := by rfl
theorem jI_356_4 : jmI (jm 356) 4 = (.iload_n 2, 1) := by rfl
theorem jA_356_1037 {xs : List Int} {d : Nat} {x1 x2 : Int} (h_x1 : (-2147483648) ≤ x1 ∧ x1 ≤ (-1)) (h_x2 : (-2147483648) ≤ x2 ∧ x2 ≤ 2147483647) : jT xs (d + 2) 356 13 0 [(0, (4, 0)), (1, (0, x1)), (2, (0, x2)), (3, (4, 1))] [] jpA_15 1 6 (fun k v hsN => k = 0 ∧ v = (0, 1) ∧ hsN = jpA_15 ++ []) := by
  refine jT_xaload_n (v := (4, 1)) (pcN := 1) jI_356_0 rfl rfl rfl ?_
  refine jT_xiconst (k := 0) (pcN := 2) jI_356_1 rfl ?_
  refine jT_xaload_n (v := (4, 0)) (pcN := 3) jI_356_2 rfl rfl rfl ?_
  refine jT_xiload_n (v := (0, x1)) (pcN := 4) jI_356_3 rfl rfl rfl ?_
  refine jT_xiload_n (v := (0, x2)) (pcN := 5) jI_356_4 rfl rfl rfl ?_
  exact jT_fX [0, 2, 3, 4, 5, 6, 7, 8, 9, 10, 11, 12] 13 (y := 152) (pcN := 8) (dC := 1) (bc1 := 1) (bc2 := 6) (as := [(4, 0), (0, x1), (0, x2)]) (asC := [(4, 0), (0, x1), (0, x2)]) (LN := [(0, (4, 0)), (1, (0, x1)), (2, (0, x2)), (3, (4, 1))]) (stN := [(0, 0), (4, 1)]) (hsC := jpA_6) (e := 0) (jA_152_1036 (d := 0) (by omega) (by omega)) (by rfl) (by rfl) (by decide +kernel) (by rfl) (by rfl) (by omega) (by omega) (by omega) (by omega) (show _ from ⟨rfl, rfl, rfl⟩)
theorem jI_283_0 : jmI (jm 283) 0 = (.aload_n 0, 1) := by rfl
theorem jI_283_1 : jmI (jm 283) 1 = (.iload_n 1, 1) := by rfl
theorem jI_283_8 : jmI (jm 283) 8 = (.ifCond .ne 17, 3) := by rfl
theorem jI_283_25 : jmI (jm 283) 25 = (.iconst 0, 1) := by rfl
theorem jA_283_1038 {xs : List Int} {d : Nat} {x1 x2 : Int} (h_x1 : (-2147483648) ≤ x1 ∧ x1 ≤ (-1)) (h_x2 : (-2147483648) ≤ x2 ∧ x2 ≤ 2147483647) : jT xs (d + 2) 283 16 0 [(0, (4, 0)), (1, (0, x1)), (2, (0, x2))] [] jpA_22 0 0 (fun k v hsN => k = 0 ∧ v = (0, 0) ∧ hsN = jpA_20) := by
  refine jT_xaload_n (v := (4, 0)) (pcN := 1) jI_283_0 rfl rfl rfl ?_
  refine jT_xiload_n (v := (0, x1)) (pcN := 2) jI_283_1 rfl rfl rfl ?_
  refine jT_fR [] 16 (y := 238) (pcN := 5) (dC := 1) (bc1 := 0) (bc2 := 0) (c1 := 0) (c2 := 0) (as := [(0, x1)]) (asC := [(0, x1)]) (LN := [(0, (4, 0)), (1, (0, x1)), (2, (0, x2))]) (stN := [(4, 0)]) (hsC := []) (v := (0, 0)) (st2 := [(0, 0), (4, 0)]) (jA_238_313 (d := 0) (by omega)) (by rfl) (by rfl) (by decide +kernel) (by rfl) (by rfl) (by omega) (by omega) (by omega) (by omega) rfl ?_
  refine jT_fB [0, 1, 2, 3, 4, 5, 6, 7, 8, 9, 10, 11, 12, 13, 14, 15] 16 (y := 190) (pcN := 8) (dC := 1) (bc1 := 0) (bc2 := 0) (c1 := 0) (c2 := 0) (as := [(4, 0), (0, 0)]) (asC := [(4, 0), (0, 0)]) (LN := [(0, (4, 0)), (1, (0, x1)), (2, (0, x2))]) (stN := []) (hsC := jpA_22) (hsD := jpA_20) (v := (0, 1)) (st2 := [(0, 1)]) (hs2 := jpA_20) (jA_190_6 (d := 0)) (by rfl) (by rfl) (by decide +kernel) (by rfl) (by rfl) (by omega) (by omega) (by omega) (by omega) rfl (by decide +kernel) ?_
  refine jT_xifT (pcN := 25) jI_283_8 rfl (by decide +kernel) rfl ?_
  refine jT_xiconst (k := 0) (pcN := 26) jI_283_25 rfl ?_
  exact jT_ret rfl (by decide) (by show 16 ≤ 16; decide) (by omega) (by omega) ⟨rfl, rfl, rfl⟩
theorem jI_152_6 : jmI (jm 152) 6 = (.aload_n 0, 1) := by rfl
theorem jI_152_7 : jmI (jm 152) 7 = (.getfield 67, 3) := by rfl
theorem jI_152_10 : jmI (jm 152) 10 = (.iload_n 1, 1) := by rfl
theorem jI_152_14 : jmI (jm 152) 14 = (.astore_n 3, 1) := by rfl
theorem jI_152_15 : jmI (jm 152) 15 = (.aload_n 0, 1) := by rfl
theorem jI_152_16 : jmI (jm 152) 16 = (.iload_n 2, 1) := by rfl
theorem jI_152_17 : jmI (jm 152) 17 = (.aload_n 3, 1) := by rfl
theorem jA_152_1039 {xs : List Int} {d : Nat} {x2 : Int} (h_x2 : (-2147483648) ≤ x2 ∧ x2 ≤ (-1)) : jT xs (d + 1) 152 23 0 [(0, (4, 0)), (1, (0, 0)), (2, (0, x2))] [] jpA_1805 1 6 (fun k v hsN => k = 1 ∧ v = (0, 0) ∧ hsN = jpA_1805 ++ []) := by
  refine jT_xaload_n (v := (4, 0)) (pcN := 1) jI_152_0 rfl rfl rfl ?_
  refine jT_xiload_n (v := (0, 0)) (pcN := 2) jI_152_1 rfl rfl rfl ?_
  refine jT_xiconst (k := 4) (pcN := 3) jI_152_2 rfl ?_
  refine jT_fR [0] 23 (y := 115) (pcN := 6) (dC := 0) (bc1 := 0) (bc2 := 0) (c1 := 1) (c2 := 6) (as := [(4, 0), (0, 0), (0, 4)]) (asC := [(4, 0), (0, 0), (0, 4)]) (LN := [(0, (4, 0)), (1, (0, 0)), (2, (0, x2))]) (stN := []) (hsC := [jgh]) (v := (9, 0)) (st2 := []) (jA_115_321 (d := 0)) (by rfl) (by rfl) (by decide +kernel) (by rfl) (by rfl) (by omega) (by omega) (by omega) (by omega) rfl ?_
  refine jT_xaload_n (v := (4, 0)) (pcN := 7) jI_152_6 rfl rfl rfl ?_
  refine jT_xgetf (a := 0) (t := 1) (ci := 13) (fi := 11) (c := jzA_5) (v := (4, 11)) (pcN := 10) jI_152_7 rfl rfl rfl rfl rfl rfl rfl ?_
  refine jT_xiload_n (v := (0, 0)) (pcN := 11) jI_152_10 rfl rfl rfl ?_
  refine jT_fR [11, 12, 13, 14, 15, 16, 17, 18, 19, 20] 23 (y := 56) (pcN := 14) (dC := 0) (bc1 := 0) (bc2 := 0) (c1 := 1) (c2 := 6) (as := [(4, 11), (0, 0)]) (asC := [(4, 0), (0, 0)]) (LN := [(0, (4, 0)), (1, (0, 0)), (2, (0, x2))]) (stN := []) (hsC := jpA_1446) (v := (4, 6)) (st2 := [(4, 17)]) (jA_56_322 (d := 0)) (by rfl) (by rfl) (by decide +kernel) (by rfl) (by rfl) (by omega) (by omega) (by omega) (by omega) rfl ?_
  refine jT_xastore_n (v := (4, 17)) (LN := [(3, (4, 17)), (0, (4, 0)), (1, (0, 0)), (2, (0, x2))]) (pcN := 15) jI_152_14 rfl rfl rfl rfl ?_
  refine jT_xaload_n (v := (4, 0)) (pcN := 16) jI_152_15 rfl rfl rfl ?_
  refine jT_xiload_n (v := (0, x2)) (pcN := 17) jI_152_16 rfl rfl rfl ?_
  refine jT_xaload_n (v := (4, 17)) (pcN := 18) jI_152_17 rfl rfl rfl ?_
  refine jT_fR [17, 21, 22] 23 (y := 29) (pcN := 21) (dC := 0) (bc1 := 0) (bc2 := 0) (c1 := 1) (c2 := 6) (as := [(4, 17)]) (asC := [(4, 0)]) (LN := [(3, (4, 17)), (0, (4, 0)), (1, (0, 0)), (2, (0, x2))]) (stN := [(0, x2), (4, 0)]) (hsC := [(7, [(4, 1), (4, (-1)), (4, (-1))], []), (114, [], [2]), jgh]) (v := (0, 1)) (st2 := [(0, 1), (0, x2), (4, 0)]) (jA_29_416 (d := 0)) (by rfl) (by rfl) (by decide +kernel) (by rfl) (by rfl) (by omega) (by omega) (by omega) (by omega) rfl ?_
  exact jT_fX [0] 23 (y := 115) (pcN := 24) (dC := 0) (bc1 := 1) (bc2 := 6) (as := [(4, 0), (0, x2), (0, 1)]) (asC := [(4, 0), (0, x2), (0, 1)]) (LN := [(3, (4, 17)), (0, (4, 0)), (1, (0, 0)), (2, (0, x2))]) (stN := []) (hsC := [jgh]) (e := 0) (jA_115_438 (d := 0) (by omega)) (by rfl) (by rfl) (by decide +kernel) (by rfl) (by rfl) (by omega) (by omega) (by omega) (by omega) ⟨rfl, ⟨rfl, rfl, rfl⟩⟩
theorem jA_356_1040 {xs : List Int} {d : Nat} {x2 : Int} (h_x2 : (-2147483648) ≤ x2 ∧ x2 ≤ (-1)) : jT xs (d + 2) 356 24 0 [(0, (4, 0)), (1, (0, 0)), (2, (0, x2)), (3, (4, 1))] [] jpA_1806 1 6 (fun k v hsN => k = 0 ∧ v = (0, 1) ∧ hsN = jpA_1806 ++ []) := by
  refine jT_xaload_n (v := (4, 1)) (pcN := 1) jI_356_0 rfl rfl rfl ?_
  refine jT_xiconst (k := 0) (pcN := 2) jI_356_1 rfl ?_
  refine jT_xaload_n (v := (4, 0)) (pcN := 3) jI_356_2 rfl rfl rfl ?_
  refine jT_xiload_n (v := (0, 0)) (pcN := 4) jI_356_3 rfl rfl rfl ?_
  refine jT_xiload_n (v := (0, x2)) (pcN := 5) jI_356_4 rfl rfl rfl ?_
  exact jT_fX [0, 2, 3, 4, 5, 6, 7, 8, 9, 10, 11, 12, 13, 14, 15, 16, 17, 18, 19, 20, 21, 22, 23] 24 (y := 152) (pcN := 8) (dC := 1) (bc1 := 1) (bc2 := 6) (as := [(4, 0), (0, 0), (0, x2)]) (asC := [(4, 0), (0, 0), (0, x2)]) (LN := [(0, (4, 0)), (1, (0, 0)), (2, (0, x2)), (3, (4, 1))]) (stN := [(0, 0), (4, 1)]) (hsC := jpA_1805) (e := 0) (jA_152_1039 (d := 0) (by omega)) (by rfl) (by rfl) (by decide +kernel) (by rfl) (by rfl) (by omega) (by omega) (by omega) (by omega) (show _ from ⟨rfl, rfl, rfl⟩)
theorem jI_283_11 : jmI (jm 283) 11 = (.aload_n 0, 1) := by rfl
theorem jI_283_12 : jmI (jm 283) 12 = (.aload_n 0, 1) := by rfl
theorem jI_283_13 : jmI (jm 283) 13 = (.iload_n 1, 1) := by rfl
theorem jI_283_14 : jmI (jm 283) 14 = (.iload_n 2, 1) := by rfl
theorem jI_283_18 : jmI (jm 283) 18 = (.iconst 1, 1) := by rfl
theorem jI_283_22 : jmI (jm 283) 22 = (.ifCond .eq 5, 3) := by rfl
theorem jA_283_1041 {xs : List Int} {d : Nat} {x2 : Int} (h_x2 : (-2147483648) ≤ x2 ∧ x2 ≤ (-1)) : jT xs (d + 2) 283 16 0 [(0, (4, 0)), (1, (0, 0)), (2, (0, x2))] [] jpA_1519 0 0 (fun k v hsN => k = 0 ∧ v = (0, 0) ∧ hsN = jpA_1820) := by
  refine jT_xaload_n (v := (4, 0)) (pcN := 1) jI_283_0 rfl rfl rfl ?_
  refine jT_xiload_n (v := (0, 0)) (pcN := 2) jI_283_1 rfl rfl rfl ?_
  refine jT_fR [] 16 (y := 238) (pcN := 5) (dC := 1) (bc1 := 0) (bc2 := 0) (c1 := 0) (c2 := 0) (as := [(0, 0)]) (asC := [(0, 0)]) (LN := [(0, (4, 0)), (1, (0, 0)), (2, (0, x2))]) (stN := [(4, 0)]) (hsC := []) (v := (0, 1)) (st2 := [(0, 1), (4, 0)]) (jA_238_338 (d := 0)) (by rfl) (by rfl) (by decide +kernel) (by rfl) (by rfl) (by omega) (by omega) (by omega) (by omega) rfl ?_
  refine jT_fR [0, 1, 2, 3, 4, 5, 6, 7, 8, 9, 10, 11, 12, 13, 14, 15] 16 (y := 190) (pcN := 8) (dC := 1) (bc1 := 0) (bc2 := 0) (c1 := 0) (c2 := 0) (as := [(4, 0), (0, 1)]) (asC := [(4, 0), (0, 1)]) (LN := [(0, (4, 0)), (1, (0, 0)), (2, (0, x2))]) (stN := []) (hsC := jpA_22) (v := (0, 0)) (st2 := [(0, 0)]) (jA_190_39 (d := 0)) (by rfl) (by rfl) (by decide +kernel) (by rfl) (by rfl) (by omega) (by omega) (by omega) (by omega) rfl ?_
  refine jT_xifF (t := 25) (pcN := 11) jI_283_8 rfl (by decide +kernel) rfl rfl ?_
  refine jT_xaload_n (v := (4, 0)) (pcN := 12) jI_283_11 rfl rfl rfl ?_
  refine jT_xaload_n (v := (4, 0)) (pcN := 13) jI_283_12 rfl rfl rfl ?_
  refine jT_xiload_n (v := (0, 0)) (pcN := 14) jI_283_13 rfl rfl rfl ?_
  refine jT_xiload_n (v := (0, x2)) (pcN := 15) jI_283_14 rfl rfl rfl ?_
  refine jT_fR [0, 1, 2, 3, 4, 5, 6, 7, 8, 9, 10, 11, 12, 13, 14, 15] 16 (y := 247) (pcN := 18) (dC := 1) (bc1 := 0) (bc2 := 0) (c1 := 0) (c2 := 0) (as := [(4, 0), (0, 0), (0, x2)]) (asC := [(4, 0), (0, 0), (0, x2)]) (LN := [(0, (4, 0)), (1, (0, 0)), (2, (0, x2))]) (stN := [(4, 0)]) (hsC := jpA_1519) (v := (0, 0)) (st2 := [(0, 0), (4, 0)]) (jA_247_441 (d := 0) (by omega)) (by rfl) (by rfl) (by decide +kernel) (by rfl) (by rfl) (by omega) (by omega) (by omega) (by omega) rfl ?_
  refine jT_xiconst (k := 1) (pcN := 19) jI_283_18 rfl ?_
  refine jT_fB [0, 1, 2, 3, 4, 5, 6, 7, 8, 9, 10, 11, 12, 13, 14, 15] 16 (y := 191) (pcN := 22) (dC := 0) (bc1 := 0) (bc2 := 0) (c1 := 0) (c2 := 0) (as := [(4, 0), (0, 0), (0, 1)]) (asC := [(4, 0), (0, 0), (0, 1)]) (LN := [(0, (4, 0)), (1, (0, 0)), (2, (0, x2))]) (stN := []) (hsC := jpA_22) (hsD := jpA_20) (v := (0, 1)) (st2 := [(0, 1)]) (hs2 := jpA_1820) (jA_191_5 (d := 0)) (by rfl) (by rfl) (by decide +kernel) (by rfl) (by rfl) (by omega) (by omega) (by omega) (by omega) rfl (by decide +kernel) ?_
  refine jT_xifF (t := 27) (pcN := 25) jI_283_22 rfl (by decide +kernel) rfl rfl ?_
  refine jT_xiconst (k := 0) (pcN := 26) jI_283_25 rfl ?_
  exact jT_ret rfl (by decide) (by show 16 ≤ 16; decide) (by omega) (by omega) ⟨rfl, rfl, rfl⟩
theorem jA_152_1042 {xs : List Int} {d : Nat} : jT xs (d + 6) 152 26 0 [(0, (4, 0)), (1, (0, 0)), (2, (0, 0))] [] jpA_3742 7 19 (fun k v hsN => k = 0 ∧ v = (0, 0) ∧ hsN = jpA_3743) := by
  refine jT_advK 3 (pcN := 3) (LN := [(0, (4, 0)), (1, (0, 0)), (2, (0, 0))]) (stN := [(0, 4), (0, 0), (4, 0)]) (hsN := jpA_3742) (c1 := 0) (s1 := 0) (c2 := 7) (s2 := 19) (by decide +kernel) ?_ (by omega) (by omega)
  refine jT_fR [0] 26 (y := 115) (pcN := 6) (dC := 0) (bc1 := 0) (bc2 := 0) (c1 := 7) (c2 := 19) (as := [(4, 0), (0, 0), (0, 4)]) (asC := [(4, 0), (0, 0), (0, 4)]) (LN := [(0, (4, 0)), (1, (0, 0)), (2, (0, 0))]) (stN := []) (hsC := [jgh]) (v := (9, 0)) (st2 := []) (jA_115_321 (d := 0)) (by rfl) (by rfl) (by decide +kernel) (by rfl) (by rfl) (by omega) (by omega) (by omega) (by omega) rfl ?_
  refine jT_advK 3 (pcN := 11) (LN := [(0, (4, 0)), (1, (0, 0)), (2, (0, 0))]) (stN := [(0, 0), (4, 11)]) (hsN := jpA_3742) (c1 := 0) (s1 := 0) (c2 := 7) (s2 := 19) (by decide +kernel) ?_ (by omega) (by omega)
  refine jT_fR [11, 14, 15, 16, 17, 18, 19, 20, 21, 22] 26 (y := 56) (pcN := 14) (dC := 0) (bc1 := 0) (bc2 := 0) (c1 := 7) (c2 := 19) (as := [(4, 11), (0, 0)]) (asC := [(4, 0), (0, 0)]) (LN := [(0, (4, 0)), (1, (0, 0)), (2, (0, 0))]) (stN := []) (hsC := jpA_1446) (v := (4, 6)) (st2 := [(4, 19)]) (jA_56_322 (d := 0)) (by rfl) (by rfl) (by decide +kernel) (by rfl) (by rfl) (by omega) (by omega) (by omega) (by omega) rfl ?_
  refine jT_advK 4 (pcN := 18) (LN := [(3, (4, 19)), (0, (4, 0)), (1, (0, 0)), (2, (0, 0))]) (stN := [(4, 19), (0, 0), (4, 0)]) (hsN := jpA_3742) (c1 := 0) (s1 := 0) (c2 := 7) (s2 := 19) (by decide +kernel) ?_ (by omega) (by omega)
  refine jT_fR [19, 23, 24] 26 (y := 29) (pcN := 21) (dC := 0) (bc1 := 0) (bc2 := 0) (c1 := 7) (c2 := 19) (as := [(4, 19)]) (asC := [(4, 0)]) (LN := [(3, (4, 19)), (0, (4, 0)), (1, (0, 0)), (2, (0, 0))]) (stN := [(0, 0), (4, 0)]) (hsC := [(7, [(4, 1), (4, (-1)), (4, (-1))], []), (114, [], [2]), jgh]) (v := (0, 1)) (st2 := [(0, 1), (0, 0), (4, 0)]) (jA_29_416 (d := 0)) (by rfl) (by rfl) (by decide +kernel) (by rfl) (by rfl) (by omega) (by omega) (by omega) (by omega) rfl ?_
  refine jT_fR [0] 26 (y := 115) (pcN := 24) (dC := 0) (bc1 := 0) (bc2 := 0) (c1 := 7) (c2 := 19) (as := [(4, 0), (0, 0), (0, 1)]) (asC := [(4, 0), (0, 0), (0, 1)]) (LN := [(3, (4, 19)), (0, (4, 0)), (1, (0, 0)), (2, (0, 0))]) (stN := []) (hsC := [jgh]) (v := (9, 0)) (st2 := []) (jA_115_443 (d := 0)) (by rfl) (by rfl) (by decide +kernel) (by rfl) (by rfl) (by omega) (by omega) (by omega) (by omega) rfl ?_
  refine jT_advK 3 (pcN := 29) (LN := [(3, (4, 19)), (0, (4, 0)), (1, (0, 0)), (2, (0, 0))]) (stN := [(4, 1), (4, 19)]) (hsN := jpA_3742) (c1 := 0) (s1 := 0) (c2 := 7) (s2 := 19) (by decide +kernel) ?_ (by omega) (by omega)
  refine jT_fB [19, 1, 23, 12, 13, 24, 25] 26 (y := 36) (pcN := 32) (dC := 5) (bc1 := 7) (bc2 := 19) (c1 := 0) (c2 := 0) (as := [(4, 19), (4, 1)]) (asC := [(4, 0), (4, 1)]) (LN := [(3, (4, 19)), (0, (4, 0)), (1, (0, 0)), (2, (0, 0))]) (stN := []) (hsC := jpA_3741) (hsD := jpA_3740) (v := (4, 13)) (st2 := [(4, 32)]) (hs2 := jpA_3743) (jA_36_1012 (d := 0)) (by rfl) (by rfl) (by decide +kernel) (by rfl) (by rfl) (by omega) (by omega) (by omega) (by omega) rfl (by decide +kernel) ?_
  refine jT_advK 2 (pcN := 34) (LN := [(3, (4, 19)), (0, (4, 0)), (1, (0, 0)), (2, (0, 0))]) (stN := [(0, 0)]) (hsN := jpA_3743) (c1 := 0) (s1 := 0) (c2 := 0) (s2 := 0) (by decide +kernel) ?_ (by omega) (by omega)
  exact jT_ret rfl (by decide) (by show 26 ≤ 33; decide) (by omega) (by omega) ⟨rfl, rfl, rfl⟩
theorem jA_356_1043 {xs : List Int} {d : Nat} : jT xs (d + 7) 356 27 0 [(0, (4, 0)), (1, (0, 0)), (2, (0, 0)), (3, (4, 1))] [] jpA_3744 7 19 (fun k v hsN => k = 0 ∧ v = (0, 0) ∧ hsN = jpA_3745) := by
  refine jT_advK 5 (pcN := 5) (LN := [(0, (4, 0)), (1, (0, 0)), (2, (0, 0)), (3, (4, 1))]) (stN := [(0, 0), (0, 0), (4, 0), (0, 0), (4, 1)]) (hsN := jpA_3744) (c1 := 0) (s1 := 0) (c2 := 7) (s2 := 19) (by decide +kernel) ?_ (by omega) (by omega)
  refine jT_fB [0, 2, 3, 4, 5, 6, 7, 8, 9, 10, 11, 12, 13, 14, 15, 16, 17, 18, 19, 20, 21, 22, 23, 24, 25, 26] 27 (y := 152) (pcN := 8) (dC := 6) (bc1 := 7) (bc2 := 19) (c1 := 0) (c2 := 0) (as := [(4, 0), (0, 0), (0, 0)]) (asC := [(4, 0), (0, 0), (0, 0)]) (LN := [(0, (4, 0)), (1, (0, 0)), (2, (0, 0)), (3, (4, 1))]) (stN := [(0, 0), (4, 1)]) (hsC := jpA_3742) (hsD := jpA_3743) (v := (0, 0)) (st2 := [(0, 0), (0, 0), (4, 1)]) (hs2 := jpA_3745) (jA_152_1042 (d := 0)) (by rfl) (by rfl) (by decide +kernel) (by rfl) (by rfl) (by omega) (by omega) (by omega) (by omega) rfl (by decide +kernel) ?_
  refine jT_advK 4 (pcN := 18) (LN := [(0, (4, 0)), (1, (0, 0)), (2, (0, 0)), (3, (4, 1))]) (stN := [(0, 0)]) (hsN := jpA_3745) (c1 := 0) (s1 := 0) (c2 := 0) (s2 := 0) (by decide +kernel) ?_ (by omega) (by omega)
  exact jT_ret rfl (by decide) (by show 27 ≤ 34; decide) (by omega) (by omega) ⟨rfl, rfl, rfl⟩
def jpA_3846 : List JC := [jzA_1543, (100, [], jS0), jgh, jgh, jgh, jgh, jgh, (101, [], [1, 0, 0, 0, 0, 0]), jgh, jgh, jgh, jgh, jgh, jgh, jgh, jgh]
def jpA_3847 : List JC := [jzA_1543, (100, [], jS0), jgh, jgh, jgh, jgh, jgh, (101, [], [0, 0, 0, 0, 0, 0]), jgh, jgh, jgh, jgh, jgh, jgh, jgh, jgh]
theorem jA_203_1044 {xs : List Int} {d : Nat} : jT xs d 203 16 0 [(0, (4, 0)), (1, (4, 1)), (2, (0, 57))] [] jpA_3846 0 0 (fun k v hsN => k = 0 ∧ v = (9, 0) ∧ hsN = jpA_3847) := by
  refine jT_advK 12 (pcN := 17) (LN := [(3, (0, 0)), (0, (4, 0)), (1, (4, 1)), (2, (0, 57))]) (stN := [(0, 57), (4, 1), (0, 0), (4, 7)]) (hsN := jpA_3846) (c1 := 0) (s1 := 0) (c2 := 0) (s2 := 0) (by decide +kernel) ?_ (by omega) (by omega)
  refine jT_iald (x := 0) (a := 1) (j := 57) (fs := []) (X := jS0) (by rfl) (by rfl) (by rfl) (by rfl) (by decide +kernel) ?_
  refine jT_eq (LN := [(3, (0, 0)), (0, (4, 0)), (1, (4, 1)), (2, (0, 57))]) (stN := [(0, 0), (0, 0), (4, 7)]) (hsN := jpA_3846) rfl rfl rfl ?_
  refine jT_advK 14 (pcN := 17) (LN := [(3, (0, 1)), (0, (4, 0)), (1, (4, 1)), (2, (0, 57))]) (stN := [(0, 58), (4, 1), (0, 1), (4, 7)]) (hsN := jpA_3847) (c1 := 0) (s1 := 0) (c2 := 0) (s2 := 0) (by decide +kernel) ?_ (by omega) (by omega)
  refine jT_iald (x := 0) (a := 1) (j := 58) (fs := []) (X := jS0) (by rfl) (by rfl) (by rfl) (by rfl) (by decide +kernel) ?_
  refine jT_eq (LN := [(3, (0, 1)), (0, (4, 0)), (1, (4, 1)), (2, (0, 57))]) (stN := [(0, 0), (0, 1), (4, 7)]) (hsN := jpA_3847) rfl rfl rfl ?_
  refine jT_advK 14 (pcN := 17) (LN := [(3, (0, 2)), (0, (4, 0)), (1, (4, 1)), (2, (0, 57))]) (stN := [(0, 59), (4, 1), (0, 2), (4, 7)]) (hsN := jpA_3847) (c1 := 0) (s1 := 0) (c2 := 0) (s2 := 0) (by decide +kernel) ?_ (by omega) (by omega)
  refine jT_iald (x := 0) (a := 1) (j := 59) (fs := []) (X := jS0) (by rfl) (by rfl) (by rfl) (by rfl) (by decide +kernel) ?_
  refine jT_eq (LN := [(3, (0, 2)), (0, (4, 0)), (1, (4, 1)), (2, (0, 57))]) (stN := [(0, 0), (0, 2), (4, 7)]) (hsN := jpA_3847) rfl rfl rfl ?_
  refine jT_advK 14 (pcN := 17) (LN := [(3, (0, 3)), (0, (4, 0)), (1, (4, 1)), (2, (0, 57))]) (stN := [(0, 60), (4, 1), (0, 3), (4, 7)]) (hsN := jpA_3847) (c1 := 0) (s1 := 0) (c2 := 0) (s2 := 0) (by decide +kernel) ?_ (by omega) (by omega)
  refine jT_iald (x := 0) (a := 1) (j := 60) (fs := []) (X := jS0) (by rfl) (by rfl) (by rfl) (by rfl) (by decide +kernel) ?_
  refine jT_eq (LN := [(3, (0, 3)), (0, (4, 0)), (1, (4, 1)), (2, (0, 57))]) (stN := [(0, 0), (0, 3), (4, 7)]) (hsN := jpA_3847) rfl rfl rfl ?_
  refine jT_advK 14 (pcN := 17) (LN := [(3, (0, 4)), (0, (4, 0)), (1, (4, 1)), (2, (0, 57))]) (stN := [(0, 61), (4, 1), (0, 4), (4, 7)]) (hsN := jpA_3847) (c1 := 0) (s1 := 0) (c2 := 0) (s2 := 0) (by decide +kernel) ?_ (by omega) (by omega)
  refine jT_iald (x := 0) (a := 1) (j := 61) (fs := []) (X := jS0) (by rfl) (by rfl) (by rfl) (by rfl) (by decide +kernel) ?_
  refine jT_eq (LN := [(3, (0, 4)), (0, (4, 0)), (1, (4, 1)), (2, (0, 57))]) (stN := [(0, 0), (0, 4), (4, 7)]) (hsN := jpA_3847) rfl rfl rfl ?_
  refine jT_advK 14 (pcN := 17) (LN := [(3, (0, 5)), (0, (4, 0)), (1, (4, 1)), (2, (0, 57))]) (stN := [(0, 62), (4, 1), (0, 5), (4, 7)]) (hsN := jpA_3847) (c1 := 0) (s1 := 0) (c2 := 0) (s2 := 0) (by decide +kernel) ?_ (by omega) (by omega)
  refine jT_iald (x := 0) (a := 1) (j := 62) (fs := []) (X := jS0) (by rfl) (by rfl) (by rfl) (by rfl) (by decide +kernel) ?_
  refine jT_eq (LN := [(3, (0, 5)), (0, (4, 0)), (1, (4, 1)), (2, (0, 57))]) (stN := [(0, 0), (0, 5), (4, 7)]) (hsN := jpA_3847) rfl rfl rfl ?_
  refine jT_advK 12 (pcN := 32) (LN := [(3, (0, 6)), (0, (4, 0)), (1, (4, 1)), (2, (0, 57))]) (stN := [(0, 63), (4, 1), (4, 0)]) (hsN := jpA_3847) (c1 := 0) (s1 := 0) (c2 := 0) (s2 := 0) (by decide +kernel) ?_ (by omega) (by omega)
  refine jT_iald (x := 1) (a := 1) (j := 63) (fs := []) (X := jS0) (by rfl) (by rfl) (by rfl) (by rfl) (by decide +kernel) ?_
  refine jT_eq (LN := [(3, (0, 6)), (0, (4, 0)), (1, (4, 1)), (2, (0, 57))]) (stN := [(0, 1), (4, 0)]) (hsN := jpA_3847) rfl rfl rfl ?_
  refine jT_advK 2 (pcN := 37) (LN := [(3, (0, 6)), (0, (4, 0)), (1, (4, 1)), (2, (0, 57))]) (stN := []) (hsN := jpA_3847) (c1 := 0) (s1 := 0) (c2 := 0) (s2 := 0) (by decide +kernel) ?_ (by omega) (by omega)
  exact jT_ret rfl (by decide) (by show 16 ≤ 16; decide) (by omega) (by omega) ⟨rfl, rfl, rfl⟩
def jpA_3848 : List JC := [jzA_1543, jgh, jgh, jgh, jgh, jgh, jgh, (101, [], [1, 0, 0, 0, 0, 0]), jgh, jgh, jgh, jgh, jgh, jgh, jgh, jgh]
theorem jA_199_1045 {xs : List Int} {d : Nat} : jT xs (d + 2) 199 16 0 [(0, (4, 0))] [] jpA_3848 0 0 (fun k v hsN => k = 0 ∧ v = (9, 0) ∧ hsN = jpA_3848 ++ []) := by
  refine jT_advK 13 (pcN := 20) (LN := [(3, (0, 0)), (1, (1, 1)), (0, (4, 0))]) (stN := [(1, 1), (1, 1)]) (hsN := jpA_3848) (c1 := 0) (s1 := 0) (c2 := 0) (s2 := 0) (by decide +kernel) ?_ (by omega) (by omega)
  refine jT_fR [] 16 (y := 194) (pcN := 23) (dC := 1) (bc1 := 0) (bc2 := 0) (c1 := 0) (c2 := 0) (as := [(1, 1), (1, 1)]) (asC := [(1, 1), (1, 1)]) (LN := [(3, (0, 0)), (1, (1, 1)), (0, (4, 0))]) (stN := []) (hsC := []) (v := (1, 1)) (st2 := [(1, 1)]) (jA_194_43 (d := 0)) (by rfl) (by rfl) (by decide +kernel) (by rfl) (by rfl) (by omega) (by omega) (by omega) (by omega) rfl ?_
  refine jT_advK 11 (pcN := 20) (LN := [(3, (0, 1)), (1, (1, 1)), (0, (4, 0))]) (stN := [(1, 0), (1, 1)]) (hsN := jpA_3848) (c1 := 0) (s1 := 0) (c2 := 0) (s2 := 0) (by decide +kernel) ?_ (by omega) (by omega)
  refine jT_fR [] 16 (y := 194) (pcN := 23) (dC := 0) (bc1 := 0) (bc2 := 0) (c1 := 0) (c2 := 0) (as := [(1, 1), (1, 0)]) (asC := [(1, 1), (1, 0)]) (LN := [(3, (0, 1)), (1, (1, 1)), (0, (4, 0))]) (stN := []) (hsC := []) (v := (1, 1)) (st2 := [(1, 1)]) (jA_194_42 (d := 0)) (by rfl) (by rfl) (by decide +kernel) (by rfl) (by rfl) (by omega) (by omega) (by omega) (by omega) rfl ?_
  refine jT_advK 11 (pcN := 20) (LN := [(3, (0, 2)), (1, (1, 1)), (0, (4, 0))]) (stN := [(1, 0), (1, 1)]) (hsN := jpA_3848) (c1 := 0) (s1 := 0) (c2 := 0) (s2 := 0) (by decide +kernel) ?_ (by omega) (by omega)
  refine jT_fR [] 16 (y := 194) (pcN := 23) (dC := 0) (bc1 := 0) (bc2 := 0) (c1 := 0) (c2 := 0) (as := [(1, 1), (1, 0)]) (asC := [(1, 1), (1, 0)]) (LN := [(3, (0, 2)), (1, (1, 1)), (0, (4, 0))]) (stN := []) (hsC := []) (v := (1, 1)) (st2 := [(1, 1)]) (jA_194_42 (d := 0)) (by rfl) (by rfl) (by decide +kernel) (by rfl) (by rfl) (by omega) (by omega) (by omega) (by omega) rfl ?_
  refine jT_advK 11 (pcN := 20) (LN := [(3, (0, 3)), (1, (1, 1)), (0, (4, 0))]) (stN := [(1, 0), (1, 1)]) (hsN := jpA_3848) (c1 := 0) (s1 := 0) (c2 := 0) (s2 := 0) (by decide +kernel) ?_ (by omega) (by omega)
  refine jT_fR [] 16 (y := 194) (pcN := 23) (dC := 0) (bc1 := 0) (bc2 := 0) (c1 := 0) (c2 := 0) (as := [(1, 1), (1, 0)]) (asC := [(1, 1), (1, 0)]) (LN := [(3, (0, 3)), (1, (1, 1)), (0, (4, 0))]) (stN := []) (hsC := []) (v := (1, 1)) (st2 := [(1, 1)]) (jA_194_42 (d := 0)) (by rfl) (by rfl) (by decide +kernel) (by rfl) (by rfl) (by omega) (by omega) (by omega) (by omega) rfl ?_
  refine jT_advK 11 (pcN := 20) (LN := [(3, (0, 4)), (1, (1, 1)), (0, (4, 0))]) (stN := [(1, 0), (1, 1)]) (hsN := jpA_3848) (c1 := 0) (s1 := 0) (c2 := 0) (s2 := 0) (by decide +kernel) ?_ (by omega) (by omega)
  refine jT_fR [] 16 (y := 194) (pcN := 23) (dC := 0) (bc1 := 0) (bc2 := 0) (c1 := 0) (c2 := 0) (as := [(1, 1), (1, 0)]) (asC := [(1, 1), (1, 0)]) (LN := [(3, (0, 4)), (1, (1, 1)), (0, (4, 0))]) (stN := []) (hsC := []) (v := (1, 1)) (st2 := [(1, 1)]) (jA_194_42 (d := 0)) (by rfl) (by rfl) (by decide +kernel) (by rfl) (by rfl) (by omega) (by omega) (by omega) (by omega) rfl ?_
  refine jT_advK 11 (pcN := 20) (LN := [(3, (0, 5)), (1, (1, 1)), (0, (4, 0))]) (stN := [(1, 0), (1, 1)]) (hsN := jpA_3848) (c1 := 0) (s1 := 0) (c2 := 0) (s2 := 0) (by decide +kernel) ?_ (by omega) (by omega)
  refine jT_fR [] 16 (y := 194) (pcN := 23) (dC := 0) (bc1 := 0) (bc2 := 0) (c1 := 0) (c2 := 0) (as := [(1, 1), (1, 0)]) (asC := [(1, 1), (1, 0)]) (LN := [(3, (0, 5)), (1, (1, 1)), (0, (4, 0))]) (stN := []) (hsC := []) (v := (1, 1)) (st2 := [(1, 1)]) (jA_194_42 (d := 0)) (by rfl) (by rfl) (by decide +kernel) (by rfl) (by rfl) (by omega) (by omega) (by omega) (by omega) rfl ?_
  refine jT_advK 8 (pcN := 34) (LN := [(3, (0, 6)), (1, (1, 1)), (0, (4, 0))]) (stN := [(4, 7)]) (hsN := jpA_3848) (c1 := 0) (s1 := 0) (c2 := 0) (s2 := 0) (by decide +kernel) ?_ (by omega) (by omega)
  refine jT_fR [7] 16 (y := 200) (pcN := 37) (dC := 0) (bc1 := 0) (bc2 := 0) (c1 := 0) (c2 := 0) (as := [(4, 7)]) (asC := [(4, 0)]) (LN := [(3, (0, 6)), (1, (1, 1)), (0, (4, 0))]) (stN := []) (hsC := [(101, [], [1, 0, 0, 0, 0, 0])]) (v := (0, 0)) (st2 := [(0, 0)]) (jA_200_186 (d := 0)) (by rfl) (by rfl) (by decide +kernel) (by rfl) (by rfl) (by omega) (by omega) (by omega) (by omega) rfl ?_
  refine jT_advK 90 (pcN := 79) (LN := [(3, (0, 6)), (1, (1, 1)), (0, (4, 0))]) (stN := []) (hsN := jpA_3848) (c1 := 0) (s1 := 0) (c2 := 0) (s2 := 0) (by decide +kernel) ?_ (by omega) (by omega)
  exact jT_ret rfl (by decide) (by show 16 ≤ 16; decide) (by omega) (by omega) ⟨rfl, rfl, rfl⟩
theorem jA_204_1046 {xs : List Int} {d : Nat} : jT xs (d + 3) 204 16 0 [(0, (4, 0)), (1, (4, 1)), (2, (0, 57)), (3, (1, (-1)))] [] jpA_3846 0 0 (fun k v hsN => k = 0 ∧ v = (9, 0) ∧ hsN = jpA_3846 ++ []) := by
  refine jT_advK 4 (pcN := 5) (LN := [(0, (4, 0)), (1, (4, 1)), (2, (0, 57)), (3, (1, (-1)))]) (stN := [(0, 63), (4, 1)]) (hsN := jpA_3846) (c1 := 0) (s1 := 0) (c2 := 0) (s2 := 0) (by decide +kernel) ?_ (by omega) (by omega)
  refine jT_iald (x := 1) (a := 1) (j := 63) (fs := []) (X := jS0) (by rfl) (by rfl) (by rfl) (by rfl) (by decide +kernel) ?_
  refine jT_eq (LN := [(0, (4, 0)), (1, (4, 1)), (2, (0, 57)), (3, (1, (-1)))]) (stN := [(0, 1)]) (hsN := jpA_3846) rfl rfl rfl ?_
  refine jT_advK 7 (pcN := 19) (LN := [(5, (1, 1)), (0, (4, 0)), (1, (4, 1)), (2, (0, 57)), (3, (1, (-1)))]) (stN := [(1, 1), (1, 1), (1, 1)]) (hsN := jpA_3846) (c1 := 0) (s1 := 0) (c2 := 0) (s2 := 0) (by decide +kernel) ?_ (by omega) (by omega)
  refine jT_fR [] 16 (y := 194) (pcN := 22) (dC := 1) (bc1 := 0) (bc2 := 0) (c1 := 0) (c2 := 0) (as := [(1, 1), (1, 1)]) (asC := [(1, 1), (1, 1)]) (LN := [(5, (1, 1)), (0, (4, 0)), (1, (4, 1)), (2, (0, 57)), (3, (1, (-1)))]) (stN := [(1, 1)]) (hsC := []) (v := (1, 1)) (st2 := [(1, 1), (1, 1)]) (jA_194_43 (d := 0)) (by rfl) (by rfl) (by decide +kernel) (by rfl) (by rfl) (by omega) (by omega) (by omega) (by omega) rfl ?_
  refine jT_advK 26 (pcN := 65) (LN := [(9, (0, 0)), (7, (1, 1)), (5, (1, 1)), (0, (4, 0)), (1, (4, 1)), (2, (0, 57)), (3, (1, (-1)))]) (stN := [(0, 57), (4, 1), (1, (-1)), (1, 1), (0, 0), (4, 7)]) (hsN := jpA_3846) (c1 := 0) (s1 := 0) (c2 := 0) (s2 := 0) (by decide +kernel) ?_ (by omega) (by omega)
  refine jT_iald (x := 0) (a := 1) (j := 57) (fs := []) (X := jS0) (by rfl) (by rfl) (by rfl) (by rfl) (by decide +kernel) ?_
  refine jT_eq (LN := [(9, (0, 0)), (7, (1, 1)), (5, (1, 1)), (0, (4, 0)), (1, (4, 1)), (2, (0, 57)), (3, (1, (-1)))]) (stN := [(0, 0), (1, (-1)), (1, 1), (0, 0), (4, 7)]) (hsN := jpA_3846) rfl rfl rfl ?_
  refine jT_advK 30 (pcN := 65) (LN := [(9, (0, 1)), (7, (1, 1)), (5, (1, 1)), (0, (4, 0)), (1, (4, 1)), (2, (0, 57)), (3, (1, (-1)))]) (stN := [(0, 58), (4, 1), (1, (-1)), (1, 0), (0, 1), (4, 7)]) (hsN := jpA_3846) (c1 := 0) (s1 := 0) (c2 := 0) (s2 := 0) (by decide +kernel) ?_ (by omega) (by omega)
  refine jT_iald (x := 0) (a := 1) (j := 58) (fs := []) (X := jS0) (by rfl) (by rfl) (by rfl) (by rfl) (by decide +kernel) ?_
  refine jT_eq (LN := [(9, (0, 1)), (7, (1, 1)), (5, (1, 1)), (0, (4, 0)), (1, (4, 1)), (2, (0, 57)), (3, (1, (-1)))]) (stN := [(0, 0), (1, (-1)), (1, 0), (0, 1), (4, 7)]) (hsN := jpA_3846) rfl rfl rfl ?_
  refine jT_advK 30 (pcN := 65) (LN := [(9, (0, 2)), (7, (1, 1)), (5, (1, 1)), (0, (4, 0)), (1, (4, 1)), (2, (0, 57)), (3, (1, (-1)))]) (stN := [(0, 59), (4, 1), (1, (-1)), (1, 0), (0, 2), (4, 7)]) (hsN := jpA_3846) (c1 := 0) (s1 := 0) (c2 := 0) (s2 := 0) (by decide +kernel) ?_ (by omega) (by omega)
  refine jT_iald (x := 0) (a := 1) (j := 59) (fs := []) (X := jS0) (by rfl) (by rfl) (by rfl) (by rfl) (by decide +kernel) ?_
  refine jT_eq (LN := [(9, (0, 2)), (7, (1, 1)), (5, (1, 1)), (0, (4, 0)), (1, (4, 1)), (2, (0, 57)), (3, (1, (-1)))]) (stN := [(0, 0), (1, (-1)), (1, 0), (0, 2), (4, 7)]) (hsN := jpA_3846) rfl rfl rfl ?_
  refine jT_advK 30 (pcN := 65) (LN := [(9, (0, 3)), (7, (1, 1)), (5, (1, 1)), (0, (4, 0)), (1, (4, 1)), (2, (0, 57)), (3, (1, (-1)))]) (stN := [(0, 60), (4, 1), (1, (-1)), (1, 0), (0, 3), (4, 7)]) (hsN := jpA_3846) (c1 := 0) (s1 := 0) (c2 := 0) (s2 := 0) (by decide +kernel) ?_ (by omega) (by omega)
  refine jT_iald (x := 0) (a := 1) (j := 60) (fs := []) (X := jS0) (by rfl) (by rfl) (by rfl) (by rfl) (by decide +kernel) ?_
  refine jT_eq (LN := [(9, (0, 3)), (7, (1, 1)), (5, (1, 1)), (0, (4, 0)), (1, (4, 1)), (2, (0, 57)), (3, (1, (-1)))]) (stN := [(0, 0), (1, (-1)), (1, 0), (0, 3), (4, 7)]) (hsN := jpA_3846) rfl rfl rfl ?_
  refine jT_advK 30 (pcN := 65) (LN := [(9, (0, 4)), (7, (1, 1)), (5, (1, 1)), (0, (4, 0)), (1, (4, 1)), (2, (0, 57)), (3, (1, (-1)))]) (stN := [(0, 61), (4, 1), (1, (-1)), (1, 0), (0, 4), (4, 7)]) (hsN := jpA_3846) (c1 := 0) (s1 := 0) (c2 := 0) (s2 := 0) (by decide +kernel) ?_ (by omega) (by omega)
  refine jT_iald (x := 0) (a := 1) (j := 61) (fs := []) (X := jS0) (by rfl) (by rfl) (by rfl) (by rfl) (by decide +kernel) ?_
  refine jT_eq (LN := [(9, (0, 4)), (7, (1, 1)), (5, (1, 1)), (0, (4, 0)), (1, (4, 1)), (2, (0, 57)), (3, (1, (-1)))]) (stN := [(0, 0), (1, (-1)), (1, 0), (0, 4), (4, 7)]) (hsN := jpA_3846) rfl rfl rfl ?_
  refine jT_advK 30 (pcN := 65) (LN := [(9, (0, 5)), (7, (1, 1)), (5, (1, 1)), (0, (4, 0)), (1, (4, 1)), (2, (0, 57)), (3, (1, (-1)))]) (stN := [(0, 62), (4, 1), (1, (-1)), (1, 0), (0, 5), (4, 7)]) (hsN := jpA_3846) (c1 := 0) (s1 := 0) (c2 := 0) (s2 := 0) (by decide +kernel) ?_ (by omega) (by omega)
  refine jT_iald (x := 0) (a := 1) (j := 62) (fs := []) (X := jS0) (by rfl) (by rfl) (by rfl) (by rfl) (by decide +kernel) ?_
  refine jT_eq (LN := [(9, (0, 5)), (7, (1, 1)), (5, (1, 1)), (0, (4, 0)), (1, (4, 1)), (2, (0, 57)), (3, (1, (-1)))]) (stN := [(0, 0), (1, (-1)), (1, 0), (0, 5), (4, 7)]) (hsN := jpA_3846) rfl rfl rfl ?_
  refine jT_advK 17 (pcN := 89) (LN := [(9, (0, 6)), (7, (1, 1)), (5, (1, 1)), (0, (4, 0)), (1, (4, 1)), (2, (0, 57)), (3, (1, (-1)))]) (stN := [(4, 0)]) (hsN := jpA_3846) (c1 := 0) (s1 := 0) (c2 := 0) (s2 := 0) (by decide +kernel) ?_ (by omega) (by omega)
  refine jT_fR [0, 1, 2, 3, 4, 5, 6, 7, 8, 9, 10, 11, 12, 13, 14, 15] 16 (y := 199) (pcN := 92) (dC := 2) (bc1 := 0) (bc2 := 0) (c1 := 0) (c2 := 0) (as := [(4, 0)]) (asC := [(4, 0)]) (LN := [(9, (0, 6)), (7, (1, 1)), (5, (1, 1)), (0, (4, 0)), (1, (4, 1)), (2, (0, 57)), (3, (1, (-1)))]) (stN := []) (hsC := jpA_3848) (v := (9, 0)) (st2 := []) (jA_199_1045 (d := 0)) (by rfl) (by rfl) (by decide +kernel) (by rfl) (by rfl) (by omega) (by omega) (by omega) (by omega) rfl ?_
  exact jT_ret rfl (by decide) (by show 16 ≤ 16; decide) (by omega) (by omega) ⟨rfl, rfl, rfl⟩
theorem jA_280_1047 {xs : List Int} {d : Nat} : jT xs (d + 4) 280 16 0 [(0, (4, 0)), (1, (0, 0)), (2, (0, 0))] [] jpA_3846 0 0 (fun k v hsN => k = 0 ∧ v = (9, 0) ∧ hsN = jpA_3846 ++ []) := by
  refine jT_advK 5 (pcN := 5) (LN := [(0, (4, 0)), (1, (0, 0)), (2, (0, 0))]) (stN := [(0, 0), (4, 0), (0, 1)]) (hsN := jpA_3846) (c1 := 0) (s1 := 0) (c2 := 0) (s2 := 0) (by decide +kernel) ?_ (by omega) (by omega)
  refine jT_fR [0, 1, 2, 3, 4, 5, 6, 7, 8, 9, 10, 11, 12, 13, 14, 15] 16 (y := 245) (pcN := 8) (dC := 0) (bc1 := 0) (bc2 := 0) (c1 := 0) (c2 := 0) (as := [(4, 0), (0, 0)]) (asC := [(4, 0), (0, 0)]) (LN := [(0, (4, 0)), (1, (0, 0)), (2, (0, 0))]) (stN := [(0, 1)]) (hsC := jpA_1545) (v := (0, 1)) (st2 := [(0, 1), (0, 1)]) (jA_245_347 (d := 0)) (by rfl) (by rfl) (by decide +kernel) (by rfl) (by rfl) (by omega) (by omega) (by omega) (by omega) rfl ?_
  refine jT_advK 7 (pcN := 17) (LN := [(3, (0, 0)), (0, (4, 0)), (1, (0, 0)), (2, (0, 0))]) (stN := [(0, 0), (0, 0), (4, 1), (4, 0)]) (hsN := jpA_3846) (c1 := 0) (s1 := 0) (c2 := 0) (s2 := 0) (by decide +kernel) ?_ (by omega) (by omega)
  refine jT_fR [] 16 (y := 242) (pcN := 20) (dC := 0) (bc1 := 0) (bc2 := 0) (c1 := 0) (c2 := 0) (as := [(0, 0), (0, 0)]) (asC := [(0, 0), (0, 0)]) (LN := [(3, (0, 0)), (0, (4, 0)), (1, (0, 0)), (2, (0, 0))]) (stN := [(4, 1), (4, 0)]) (hsC := []) (v := (0, 57)) (st2 := [(0, 57), (4, 1), (4, 0)]) (jA_242_340 (d := 0)) (by rfl) (by rfl) (by decide +kernel) (by rfl) (by rfl) (by omega) (by omega) (by omega) (by omega) rfl ?_
  refine jT_fB [0, 1, 2, 3, 4, 5, 6, 7, 8, 9, 10, 11, 12, 13, 14, 15] 16 (y := 203) (pcN := 23) (dC := 0) (bc1 := 0) (bc2 := 0) (c1 := 0) (c2 := 0) (as := [(4, 0), (4, 1), (0, 57)]) (asC := [(4, 0), (4, 1), (0, 57)]) (LN := [(3, (0, 0)), (0, (4, 0)), (1, (0, 0)), (2, (0, 0))]) (stN := []) (hsC := jpA_3846) (hsD := jpA_3847) (v := (9, 0)) (st2 := []) (hs2 := jpA_3847) (jA_203_1044 (d := 0)) (by rfl) (by rfl) (by decide +kernel) (by rfl) (by rfl) (by omega) (by omega) (by omega) (by omega) rfl (by decide +kernel) ?_
  refine jT_advK 16 (pcN := 47) (LN := [(3, (0, 0)), (0, (4, 0)), (1, (0, 0)), (2, (0, 0))]) (stN := [(0, 0), (0, 0), (4, 1), (4, 0)]) (hsN := jpA_3846) (c1 := 0) (s1 := 0) (c2 := 0) (s2 := 0) (by decide +kernel) ?_ (by omega) (by omega)
  refine jT_fR [] 16 (y := 242) (pcN := 50) (dC := 0) (bc1 := 0) (bc2 := 0) (c1 := 0) (c2 := 0) (as := [(0, 0), (0, 0)]) (asC := [(0, 0), (0, 0)]) (LN := [(3, (0, 0)), (0, (4, 0)), (1, (0, 0)), (2, (0, 0))]) (stN := [(4, 1), (4, 0)]) (hsC := []) (v := (0, 57)) (st2 := [(0, 57), (4, 1), (4, 0)]) (jA_242_340 (d := 0)) (by rfl) (by rfl) (by decide +kernel) (by rfl) (by rfl) (by omega) (by omega) (by omega) (by omega) rfl ?_
  refine jT_advK 1 (pcN := 53) (LN := [(3, (0, 0)), (0, (4, 0)), (1, (0, 0)), (2, (0, 0))]) (stN := [(1, (-1)), (0, 57), (4, 1), (4, 0)]) (hsN := jpA_3846) (c1 := 0) (s1 := 0) (c2 := 0) (s2 := 0) (by decide +kernel) ?_ (by omega) (by omega)
  refine jT_fR [0, 1, 2, 3, 4, 5, 6, 7, 8, 9, 10, 11, 12, 13, 14, 15] 16 (y := 204) (pcN := 56) (dC := 3) (bc1 := 0) (bc2 := 0) (c1 := 0) (c2 := 0) (as := [(4, 0), (4, 1), (0, 57), (1, (-1))]) (asC := [(4, 0), (4, 1), (0, 57), (1, (-1))]) (LN := [(3, (0, 0)), (0, (4, 0)), (1, (0, 0)), (2, (0, 0))]) (stN := []) (hsC := jpA_3846) (v := (9, 0)) (st2 := []) (jA_204_1046 (d := 0)) (by rfl) (by rfl) (by decide +kernel) (by rfl) (by rfl) (by omega) (by omega) (by omega) (by omega) rfl ?_
  exact jT_ret rfl (by decide) (by show 16 ≤ 16; decide) (by omega) (by omega) ⟨rfl, rfl, rfl⟩
def jpA_3849 : List JC := [jzA_1548, jzA_3760, jgh, jgh, jgh, jgh, jgh, jgh, (101, [], [1, 0, 0, 0, 0, 0]), jgh, jgh, jgh, jgh, jgh, jgh, jgh]
theorem jA_236_1048 {xs : List Int} {d : Nat} : jT xs d 236 16 0 [(0, (4, 0)), (1, (4, 1)), (2, (0, 0))] [] jpA_3849 0 0 (fun k v hsN => k = 0 ∧ v = (0, 1) ∧ hsN = jpA_3849 ++ []) := by
  refine jT_advK 6 (pcN := 9) (LN := [(0, (4, 0)), (1, (4, 1)), (2, (0, 0))]) (stN := [(0, 6), (4, 1), (1, 1)]) (hsN := jpA_3849) (c1 := 0) (s1 := 0) (c2 := 0) (s2 := 0) (by decide +kernel) ?_ (by omega) (by omega)
  refine jT_iald (x := 1) (a := 1) (j := 6) (fs := []) (X := (((((((((((((((List.replicate 1792 0)).set 0 1)).set 1 0)).set 2 0)).set 3 0)).set 4 0)).set 5 0)).set 6 1)) (by rfl) (by rfl) (by rfl) (by rfl) (by rw [List.getElem?_set_self (by simp only [List.length_set, List.length_replicate, List.length_cons, List.length_nil, jS0_len]; omega)]) ?_
  refine jT_eq (LN := [(0, (4, 0)), (1, (4, 1)), (2, (0, 0))]) (stN := [(0, 1), (1, 1)]) (hsN := jpA_3849) rfl rfl rfl ?_
  refine jT_advK 21 (pcN := 47) (LN := [(4, (0, 0)), (3, (0, 1)), (0, (4, 0)), (1, (4, 1)), (2, (0, 0))]) (stN := [(0, 0), (4, 1), (1, 1)]) (hsN := jpA_3849) (c1 := 0) (s1 := 0) (c2 := 0) (s2 := 0) (by decide +kernel) ?_ (by omega) (by omega)
  refine jT_iald (x := 1) (a := 1) (j := 0) (fs := []) (X := (((((((((((((((List.replicate 1792 0)).set 0 1)).set 1 0)).set 2 0)).set 3 0)).set 4 0)).set 5 0)).set 6 1)) (by rfl) (by rfl) (by rfl) (by rfl) (by rw [List.getElem?_set_ne (by omega), List.getElem?_set_ne (by omega), List.getElem?_set_ne (by omega), List.getElem?_set_ne (by omega), List.getElem?_set_ne (by omega), List.getElem?_set_ne (by omega), List.getElem?_set_self (by simp only [List.length_set, List.length_replicate, List.length_cons, List.length_nil, jS0_len]; omega)]) ?_
  refine jT_eq (LN := [(4, (0, 0)), (3, (0, 1)), (0, (4, 0)), (1, (4, 1)), (2, (0, 0))]) (stN := [(0, 1), (1, 1)]) (hsN := jpA_3849) rfl rfl rfl ?_
  refine jT_advK 21 (pcN := 47) (LN := [(4, (0, 1)), (3, (0, 1)), (0, (4, 0)), (1, (4, 1)), (2, (0, 0))]) (stN := [(0, 1), (4, 1), (1, 0)]) (hsN := jpA_3849) (c1 := 0) (s1 := 0) (c2 := 0) (s2 := 0) (by decide +kernel) ?_ (by omega) (by omega)
  refine jT_iald (x := 0) (a := 1) (j := 1) (fs := []) (X := (((((((((((((((List.replicate 1792 0)).set 0 1)).set 1 0)).set 2 0)).set 3 0)).set 4 0)).set 5 0)).set 6 1)) (by rfl) (by rfl) (by rfl) (by rfl) (by rw [List.getElem?_set_ne (by omega), List.getElem?_set_ne (by omega), List.getElem?_set_ne (by omega), List.getElem?_set_ne (by omega), List.getElem?_set_ne (by omega), List.getElem?_set_self (by simp only [List.length_set, List.length_replicate, List.length_cons, List.length_nil, jS0_len]; omega)]) ?_
  refine jT_eq (LN := [(4, (0, 1)), (3, (0, 1)), (0, (4, 0)), (1, (4, 1)), (2, (0, 0))]) (stN := [(0, 0), (1, 0)]) (hsN := jpA_3849) rfl rfl rfl ?_
  refine jT_advK 21 (pcN := 47) (LN := [(4, (0, 2)), (3, (0, 1)), (0, (4, 0)), (1, (4, 1)), (2, (0, 0))]) (stN := [(0, 2), (4, 1), (1, 0)]) (hsN := jpA_3849) (c1 := 0) (s1 := 0) (c2 := 0) (s2 := 0) (by decide +kernel) ?_ (by omega) (by omega)
  refine jT_iald (x := 0) (a := 1) (j := 2) (fs := []) (X := (((((((((((((((List.replicate 1792 0)).set 0 1)).set 1 0)).set 2 0)).set 3 0)).set 4 0)).set 5 0)).set 6 1)) (by rfl) (by rfl) (by rfl) (by rfl) (by rw [List.getElem?_set_ne (by omega), List.getElem?_set_ne (by omega), List.getElem?_set_ne (by omega), List.getElem?_set_ne (by omega), List.getElem?_set_self (by simp only [List.length_set, List.length_replicate, List.length_cons, List.length_nil, jS0_len]; omega)]) ?_
  refine jT_eq (LN := [(4, (0, 2)), (3, (0, 1)), (0, (4, 0)), (1, (4, 1)), (2, (0, 0))]) (stN := [(0, 0), (1, 0)]) (hsN := jpA_3849) rfl rfl rfl ?_
  refine jT_advK 21 (pcN := 47) (LN := [(4, (0, 3)), (3, (0, 1)), (0, (4, 0)), (1, (4, 1)), (2, (0, 0))]) (stN := [(0, 3), (4, 1), (1, 0)]) (hsN := jpA_3849) (c1 := 0) (s1 := 0) (c2 := 0) (s2 := 0) (by decide +kernel) ?_ (by omega) (by omega)
  refine jT_iald (x := 0) (a := 1) (j := 3) (fs := []) (X := (((((((((((((((List.replicate 1792 0)).set 0 1)).set 1 0)).set 2 0)).set 3 0)).set 4 0)).set 5 0)).set 6 1)) (by rfl) (by rfl) (by rfl) (by rfl) (by rw [List.getElem?_set_ne (by omega), List.getElem?_set_ne (by omega), List.getElem?_set_ne (by omega), List.getElem?_set_self (by simp only [List.length_set, List.length_replicate, List.length_cons, List.length_nil, jS0_len]; omega)]) ?_
  refine jT_eq (LN := [(4, (0, 3)), (3, (0, 1)), (0, (4, 0)), (1, (4, 1)), (2, (0, 0))]) (stN := [(0, 0), (1, 0)]) (hsN := jpA_3849) rfl rfl rfl ?_
  refine jT_advK 21 (pcN := 47) (LN := [(4, (0, 4)), (3, (0, 1)), (0, (4, 0)), (1, (4, 1)), (2, (0, 0))]) (stN := [(0, 4), (4, 1), (1, 0)]) (hsN := jpA_3849) (c1 := 0) (s1 := 0) (c2 := 0) (s2 := 0) (by decide +kernel) ?_ (by omega) (by omega)
  refine jT_iald (x := 0) (a := 1) (j := 4) (fs := []) (X := (((((((((((((((List.replicate 1792 0)).set 0 1)).set 1 0)).set 2 0)).set 3 0)).set 4 0)).set 5 0)).set 6 1)) (by rfl) (by rfl) (by rfl) (by rfl) (by rw [List.getElem?_set_ne (by omega), List.getElem?_set_ne (by omega), List.getElem?_set_self (by simp only [List.length_set, List.length_replicate, List.length_cons, List.length_nil, jS0_len]; omega)]) ?_
  refine jT_eq (LN := [(4, (0, 4)), (3, (0, 1)), (0, (4, 0)), (1, (4, 1)), (2, (0, 0))]) (stN := [(0, 0), (1, 0)]) (hsN := jpA_3849) rfl rfl rfl ?_
  refine jT_advK 21 (pcN := 47) (LN := [(4, (0, 5)), (3, (0, 1)), (0, (4, 0)), (1, (4, 1)), (2, (0, 0))]) (stN := [(0, 5), (4, 1), (1, 0)]) (hsN := jpA_3849) (c1 := 0) (s1 := 0) (c2 := 0) (s2 := 0) (by decide +kernel) ?_ (by omega) (by omega)
  refine jT_iald (x := 0) (a := 1) (j := 5) (fs := []) (X := (((((((((((((((List.replicate 1792 0)).set 0 1)).set 1 0)).set 2 0)).set 3 0)).set 4 0)).set 5 0)).set 6 1)) (by rfl) (by rfl) (by rfl) (by rfl) (by rw [List.getElem?_set_ne (by omega), List.getElem?_set_self (by simp only [List.length_set, List.length_replicate, List.length_cons, List.length_nil, jS0_len]; omega)]) ?_
  refine jT_eq (LN := [(4, (0, 5)), (3, (0, 1)), (0, (4, 0)), (1, (4, 1)), (2, (0, 0))]) (stN := [(0, 0), (1, 0)]) (hsN := jpA_3849) rfl rfl rfl ?_
  refine jT_advK 12 (pcN := 66) (LN := [(4, (0, 6)), (3, (0, 1)), (0, (4, 0)), (1, (4, 1)), (2, (0, 0))]) (stN := [(0, 1)]) (hsN := jpA_3849) (c1 := 0) (s1 := 0) (c2 := 0) (s2 := 0) (by decide +kernel) ?_ (by omega) (by omega)
  exact jT_ret rfl (by decide) (by show 16 ≤ 16; decide) (by omega) (by omega) ⟨rfl, rfl, rfl⟩
theorem jA_284_1049 {xs : List Int} {d : Nat} : jT xs (d + 5) 284 16 0 [(0, (4, 0)), (1, (0, 0)), (2, (0, 0))] [] jpA_3766 0 0 (fun k v hsN => k = 0 ∧ v = (0, 0) ∧ hsN = jpA_3766 ++ []) := by
  refine jT_advK 3 (pcN := 3) (LN := [(0, (4, 0)), (1, (0, 0)), (2, (0, 0))]) (stN := [(0, 0), (0, 0), (4, 0)]) (hsN := jpA_3766) (c1 := 0) (s1 := 0) (c2 := 0) (s2 := 0) (by decide +kernel) ?_ (by omega) (by omega)
  refine jT_fR [0, 1, 2, 3, 4, 5, 6, 7, 8, 9, 10, 11, 12, 13, 14, 15] 16 (y := 280) (pcN := 6) (dC := 4) (bc1 := 0) (bc2 := 0) (c1 := 0) (c2 := 0) (as := [(4, 0), (0, 0), (0, 0)]) (asC := [(4, 0), (0, 0), (0, 0)]) (LN := [(0, (4, 0)), (1, (0, 0)), (2, (0, 0))]) (stN := []) (hsC := jpA_3846) (v := (9, 0)) (st2 := []) (jA_280_1047 (d := 0)) (by rfl) (by rfl) (by decide +kernel) (by rfl) (by rfl) (by omega) (by omega) (by omega) (by omega) rfl ?_
  refine jT_advK 8 (pcN := 17) (LN := [(3, (0, 0)), (0, (4, 0)), (1, (0, 0)), (2, (0, 0))]) (stN := [(0, 0), (4, 8), (4, 0)]) (hsN := jpA_3766) (c1 := 0) (s1 := 0) (c2 := 0) (s2 := 0) (by decide +kernel) ?_ (by omega) (by omega)
  refine jT_fR [0, 8, 1, 2, 3, 4, 5, 6, 7, 9, 10, 11, 12, 13, 14, 15] 16 (y := 236) (pcN := 20) (dC := 0) (bc1 := 0) (bc2 := 0) (c1 := 0) (c2 := 0) (as := [(4, 0), (4, 8), (0, 0)]) (asC := [(4, 0), (4, 1), (0, 0)]) (LN := [(3, (0, 0)), (0, (4, 0)), (1, (0, 0)), (2, (0, 0))]) (stN := []) (hsC := jpA_3849) (v := (0, 1)) (st2 := [(0, 1)]) (jA_236_1048 (d := 0)) (by rfl) (by rfl) (by decide +kernel) (by rfl) (by rfl) (by omega) (by omega) (by omega) (by omega) rfl ?_
  refine jT_advK 2 (pcN := 30) (LN := [(3, (0, 0)), (0, (4, 0)), (1, (0, 0)), (2, (0, 0))]) (stN := [(0, 0)]) (hsN := jpA_3766) (c1 := 0) (s1 := 0) (c2 := 0) (s2 := 0) (by decide +kernel) ?_ (by omega) (by omega)
  exact jT_ret rfl (by decide) (by show 16 ≤ 16; decide) (by omega) (by omega) ⟨rfl, rfl, rfl⟩
theorem jA_283_1050 {xs : List Int} {d : Nat} : jT xs (d + 6) 283 16 0 [(0, (4, 0)), (1, (0, 0)), (2, (0, 0))] [] jpA_1840 0 0 (fun k v hsN => k = 0 ∧ v = (0, 0) ∧ hsN = jpA_3766) := by
  refine jT_advK 2 (pcN := 2) (LN := [(0, (4, 0)), (1, (0, 0)), (2, (0, 0))]) (stN := [(0, 0), (4, 0)]) (hsN := jpA_1840) (c1 := 0) (s1 := 0) (c2 := 0) (s2 := 0) (by decide +kernel) ?_ (by omega) (by omega)
  refine jT_fR [] 16 (y := 238) (pcN := 5) (dC := 1) (bc1 := 0) (bc2 := 0) (c1 := 0) (c2 := 0) (as := [(0, 0)]) (asC := [(0, 0)]) (LN := [(0, (4, 0)), (1, (0, 0)), (2, (0, 0))]) (stN := [(4, 0)]) (hsC := []) (v := (0, 1)) (st2 := [(0, 1), (4, 0)]) (jA_238_338 (d := 0)) (by rfl) (by rfl) (by decide +kernel) (by rfl) (by rfl) (by omega) (by omega) (by omega) (by omega) rfl ?_
  refine jT_fR [0, 1, 2, 3, 4, 5, 6, 7, 8, 9, 10, 11, 12, 13, 14, 15] 16 (y := 190) (pcN := 8) (dC := 1) (bc1 := 0) (bc2 := 0) (c1 := 0) (c2 := 0) (as := [(4, 0), (0, 1)]) (asC := [(4, 0), (0, 1)]) (LN := [(0, (4, 0)), (1, (0, 0)), (2, (0, 0))]) (stN := []) (hsC := jpA_22) (v := (0, 0)) (st2 := [(0, 0)]) (jA_190_39 (d := 0)) (by rfl) (by rfl) (by decide +kernel) (by rfl) (by rfl) (by omega) (by omega) (by omega) (by omega) rfl ?_
  refine jT_advK 5 (pcN := 15) (LN := [(0, (4, 0)), (1, (0, 0)), (2, (0, 0))]) (stN := [(0, 0), (0, 0), (4, 0), (4, 0)]) (hsN := jpA_1840) (c1 := 0) (s1 := 0) (c2 := 0) (s2 := 0) (by decide +kernel) ?_ (by omega) (by omega)
  refine jT_fR [0, 1, 2, 3, 4, 5, 6, 7, 8, 9, 10, 11, 12, 13, 14, 15] 16 (y := 247) (pcN := 18) (dC := 1) (bc1 := 0) (bc2 := 0) (c1 := 0) (c2 := 0) (as := [(4, 0), (0, 0), (0, 0)]) (asC := [(4, 0), (0, 0), (0, 0)]) (LN := [(0, (4, 0)), (1, (0, 0)), (2, (0, 0))]) (stN := [(4, 0)]) (hsC := jpA_1519) (v := (0, 1)) (st2 := [(0, 1), (4, 0)]) (jA_247_449 (d := 0)) (by rfl) (by rfl) (by decide +kernel) (by rfl) (by rfl) (by omega) (by omega) (by omega) (by omega) rfl ?_
  refine jT_advK 1 (pcN := 19) (LN := [(0, (4, 0)), (1, (0, 0)), (2, (0, 0))]) (stN := [(0, 1), (0, 1), (4, 0)]) (hsN := jpA_1840) (c1 := 0) (s1 := 0) (c2 := 0) (s2 := 0) (by decide +kernel) ?_ (by omega) (by omega)
  refine jT_fR [0] 16 (y := 191) (pcN := 22) (dC := 0) (bc1 := 0) (bc2 := 0) (c1 := 0) (c2 := 0) (as := [(4, 0), (0, 1), (0, 1)]) (asC := [(4, 0), (0, 1), (0, 1)]) (LN := [(0, (4, 0)), (1, (0, 0)), (2, (0, 0))]) (stN := []) (hsC := [jgh]) (v := (0, 0)) (st2 := [(0, 0)]) (jA_191_38 (d := 0)) (by rfl) (by rfl) (by decide +kernel) (by rfl) (by rfl) (by omega) (by omega) (by omega) (by omega) rfl ?_
  refine jT_advK 3 (pcN := 29) (LN := [(0, (4, 0)), (1, (0, 0)), (2, (0, 0))]) (stN := [(0, 0), (4, 0)]) (hsN := jpA_1840) (c1 := 0) (s1 := 0) (c2 := 0) (s2 := 0) (by decide +kernel) ?_ (by omega) (by omega)
  refine jT_fB [0, 1, 2, 3, 4, 5, 6, 7, 8, 9, 10, 11, 12, 13, 14, 15] 16 (y := 282) (pcN := 32) (dC := 5) (bc1 := 0) (bc2 := 0) (c1 := 0) (c2 := 0) (as := [(4, 0), (0, 0)]) (asC := [(4, 0), (0, 0)]) (LN := [(0, (4, 0)), (1, (0, 0)), (2, (0, 0))]) (stN := []) (hsC := jpA_1840) (hsD := jpA_3766) (v := (9, 0)) (st2 := []) (hs2 := jpA_3766) (jA_282_1018 (d := 0)) (by rfl) (by rfl) (by decide +kernel) (by rfl) (by rfl) (by omega) (by omega) (by omega) (by omega) rfl (by decide +kernel) ?_
  refine jT_advK 3 (pcN := 35) (LN := [(0, (4, 0)), (1, (0, 0)), (2, (0, 0))]) (stN := [(0, 0), (0, 0), (4, 0)]) (hsN := jpA_3766) (c1 := 0) (s1 := 0) (c2 := 0) (s2 := 0) (by decide +kernel) ?_ (by omega) (by omega)
  refine jT_fR [0, 1, 2, 3, 4, 5, 6, 7, 8, 9, 10, 11, 12, 13, 14, 15] 16 (y := 284) (pcN := 38) (dC := 5) (bc1 := 0) (bc2 := 0) (c1 := 0) (c2 := 0) (as := [(4, 0), (0, 0), (0, 0)]) (asC := [(4, 0), (0, 0), (0, 0)]) (LN := [(0, (4, 0)), (1, (0, 0)), (2, (0, 0))]) (stN := []) (hsC := jpA_3766) (v := (0, 0)) (st2 := [(0, 0)]) (jA_284_1049 (d := 0)) (by rfl) (by rfl) (by decide +kernel) (by rfl) (by rfl) (by omega) (by omega) (by omega) (by omega) rfl ?_
  exact jT_ret rfl (by decide) (by show 16 ≤ 16; decide) (by omega) (by omega) ⟨rfl, rfl, rfl⟩
theorem jA_152_1051 {xs : List Int} {d : Nat} {x2 : Int} (h_x2 : 1 ≤ x2 ∧ x2 ≤ 2147483647) : jT xs (d + 1) 152 23 0 [(0, (4, 0)), (1, (0, 0)), (2, (0, x2))] [] jpA_1805 1 6 (fun k v hsN => k = 1 ∧ v = (0, 0) ∧ hsN = jpA_1805 ++ []) := by
  refine jT_xaload_n (v := (4, 0)) (pcN := 1) jI_152_0 rfl rfl rfl ?_
  refine jT_xiload_n (v := (0, 0)) (pcN := 2) jI_152_1 rfl rfl rfl ?_
  refine jT_xiconst (k := 4) (pcN := 3) jI_152_2 rfl ?_
  refine jT_fR [0] 23 (y := 115) (pcN := 6) (dC := 0) (bc1 := 0) (bc2 := 0) (c1 := 1) (c2 := 6) (as := [(4, 0), (0, 0), (0, 4)]) (asC := [(4, 0), (0, 0), (0, 4)]) (LN := [(0, (4, 0)), (1, (0, 0)), (2, (0, x2))]) (stN := []) (hsC := [jgh]) (v := (9, 0)) (st2 := []) (jA_115_321 (d := 0)) (by rfl) (by rfl) (by decide +kernel) (by rfl) (by rfl) (by omega) (by omega) (by omega) (by omega) rfl ?_
  refine jT_xaload_n (v := (4, 0)) (pcN := 7) jI_152_6 rfl rfl rfl ?_
  refine jT_xgetf (a := 0) (t := 1) (ci := 13) (fi := 11) (c := jzA_5) (v := (4, 11)) (pcN := 10) jI_152_7 rfl rfl rfl rfl rfl rfl rfl ?_
  refine jT_xiload_n (v := (0, 0)) (pcN := 11) jI_152_10 rfl rfl rfl ?_
  refine jT_fR [11, 12, 13, 14, 15, 16, 17, 18, 19, 20] 23 (y := 56) (pcN := 14) (dC := 0) (bc1 := 0) (bc2 := 0) (c1 := 1) (c2 := 6) (as := [(4, 11), (0, 0)]) (asC := [(4, 0), (0, 0)]) (LN := [(0, (4, 0)), (1, (0, 0)), (2, (0, x2))]) (stN := []) (hsC := jpA_1446) (v := (4, 6)) (st2 := [(4, 17)]) (jA_56_322 (d := 0)) (by rfl) (by rfl) (by decide +kernel) (by rfl) (by rfl) (by omega) (by omega) (by omega) (by omega) rfl ?_
  refine jT_xastore_n (v := (4, 17)) (LN := [(3, (4, 17)), (0, (4, 0)), (1, (0, 0)), (2, (0, x2))]) (pcN := 15) jI_152_14 rfl rfl rfl rfl ?_
  refine jT_xaload_n (v := (4, 0)) (pcN := 16) jI_152_15 rfl rfl rfl ?_
  refine jT_xiload_n (v := (0, x2)) (pcN := 17) jI_152_16 rfl rfl rfl ?_
  refine jT_xaload_n (v := (4, 17)) (pcN := 18) jI_152_17 rfl rfl rfl ?_
  refine jT_fR [17, 21, 22] 23 (y := 29) (pcN := 21) (dC := 0) (bc1 := 0) (bc2 := 0) (c1 := 1) (c2 := 6) (as := [(4, 17)]) (asC := [(4, 0)]) (LN := [(3, (4, 17)), (0, (4, 0)), (1, (0, 0)), (2, (0, x2))]) (stN := [(0, x2), (4, 0)]) (hsC := [(7, [(4, 1), (4, (-1)), (4, (-1))], []), (114, [], [2]), jgh]) (v := (0, 1)) (st2 := [(0, 1), (0, x2), (4, 0)]) (jA_29_416 (d := 0)) (by rfl) (by rfl) (by decide +kernel) (by rfl) (by rfl) (by omega) (by omega) (by omega) (by omega) rfl ?_
  exact jT_fX [0] 23 (y := 115) (pcN := 24) (dC := 0) (bc1 := 1) (bc2 := 6) (as := [(4, 0), (0, x2), (0, 1)]) (asC := [(4, 0), (0, x2), (0, 1)]) (LN := [(3, (4, 17)), (0, (4, 0)), (1, (0, 0)), (2, (0, x2))]) (stN := []) (hsC := [jgh]) (e := 0) (jA_115_453 (d := 0) (by omega)) (by rfl) (by rfl) (by decide +kernel) (by rfl) (by rfl) (by omega) (by omega) (by omega) (by omega) ⟨rfl, ⟨rfl, rfl, rfl⟩⟩
theorem jA_356_1052 {xs : List Int} {d : Nat} {x2 : Int} (h_x2 : 1 ≤ x2 ∧ x2 ≤ 2147483647) : jT xs (d + 2) 356 24 0 [(0, (4, 0)), (1, (0, 0)), (2, (0, x2)), (3, (4, 1))] [] jpA_1806 1 6 (fun k v hsN => k = 0 ∧ v = (0, 1) ∧ hsN = jpA_1806 ++ []) := by
  refine jT_xaload_n (v := (4, 1)) (pcN := 1) jI_356_0 rfl rfl rfl ?_
  refine jT_xiconst (k := 0) (pcN := 2) jI_356_1 rfl ?_
  refine jT_xaload_n (v := (4, 0)) (pcN := 3) jI_356_2 rfl rfl rfl ?_
  refine jT_xiload_n (v := (0, 0)) (pcN := 4) jI_356_3 rfl rfl rfl ?_
  refine jT_xiload_n (v := (0, x2)) (pcN := 5) jI_356_4 rfl rfl rfl ?_
  exact jT_fX [0, 2, 3, 4, 5, 6, 7, 8, 9, 10, 11, 12, 13, 14, 15, 16, 17, 18, 19, 20, 21, 22, 23] 24 (y := 152) (pcN := 8) (dC := 1) (bc1 := 1) (bc2 := 6) (as := [(4, 0), (0, 0), (0, x2)]) (asC := [(4, 0), (0, 0), (0, x2)]) (LN := [(0, (4, 0)), (1, (0, 0)), (2, (0, x2)), (3, (4, 1))]) (stN := [(0, 0), (4, 1)]) (hsC := jpA_1805) (e := 0) (jA_152_1051 (d := 0) (by omega)) (by rfl) (by rfl) (by decide +kernel) (by rfl) (by rfl) (by omega) (by omega) (by omega) (by omega) (show _ from ⟨rfl, rfl, rfl⟩)
theorem jA_283_1053 {xs : List Int} {d : Nat} {x2 : Int} (h_x2 : 1 ≤ x2 ∧ x2 ≤ 2147483647) : jT xs (d + 2) 283 16 0 [(0, (4, 0)), (1, (0, 0)), (2, (0, x2))] [] jpA_1519 0 0 (fun k v hsN => k = 0 ∧ v = (0, 0) ∧ hsN = jpA_1820) := by
  refine jT_xaload_n (v := (4, 0)) (pcN := 1) jI_283_0 rfl rfl rfl ?_
  refine jT_xiload_n (v := (0, 0)) (pcN := 2) jI_283_1 rfl rfl rfl ?_
  refine jT_fR [] 16 (y := 238) (pcN := 5) (dC := 1) (bc1 := 0) (bc2 := 0) (c1 := 0) (c2 := 0) (as := [(0, 0)]) (asC := [(0, 0)]) (LN := [(0, (4, 0)), (1, (0, 0)), (2, (0, x2))]) (stN := [(4, 0)]) (hsC := []) (v := (0, 1)) (st2 := [(0, 1), (4, 0)]) (jA_238_338 (d := 0)) (by rfl) (by rfl) (by decide +kernel) (by rfl) (by rfl) (by omega) (by omega) (by omega) (by omega) rfl ?_
  refine jT_fR [0, 1, 2, 3, 4, 5, 6, 7, 8, 9, 10, 11, 12, 13, 14, 15] 16 (y := 190) (pcN := 8) (dC := 1) (bc1 := 0) (bc2 := 0) (c1 := 0) (c2 := 0) (as := [(4, 0), (0, 1)]) (asC := [(4, 0), (0, 1)]) (LN := [(0, (4, 0)), (1, (0, 0)), (2, (0, x2))]) (stN := []) (hsC := jpA_22) (v := (0, 0)) (st2 := [(0, 0)]) (jA_190_39 (d := 0)) (by rfl) (by rfl) (by decide +kernel) (by rfl) (by rfl) (by omega) (by omega) (by omega) (by omega) rfl ?_
  refine jT_xifF (t := 25) (pcN := 11) jI_283_8 rfl (by decide +kernel) rfl rfl ?_
  refine jT_xaload_n (v := (4, 0)) (pcN := 12) jI_283_11 rfl rfl rfl ?_
  refine jT_xaload_n (v := (4, 0)) (pcN := 13) jI_283_12 rfl rfl rfl ?_
  refine jT_xiload_n (v := (0, 0)) (pcN := 14) jI_283_13 rfl rfl rfl ?_
  refine jT_xiload_n (v := (0, x2)) (pcN := 15) jI_283_14 rfl rfl rfl ?_
  refine jT_fR [0, 1, 2, 3, 4, 5, 6, 7, 8, 9, 10, 11, 12, 13, 14, 15] 16 (y := 247) (pcN := 18) (dC := 1) (bc1 := 0) (bc2 := 0) (c1 := 0) (c2 := 0) (as := [(4, 0), (0, 0), (0, x2)]) (asC := [(4, 0), (0, 0), (0, x2)]) (LN := [(0, (4, 0)), (1, (0, 0)), (2, (0, x2))]) (stN := [(4, 0)]) (hsC := jpA_1519) (v := (0, 0)) (st2 := [(0, 0), (4, 0)]) (jA_247_456 (d := 0) (by omega)) (by rfl) (by rfl) (by decide +kernel) (by rfl) (by rfl) (by omega) (by omega) (by omega) (by omega) rfl ?_
  refine jT_xiconst (k := 1) (pcN := 19) jI_283_18 rfl ?_
  refine jT_fB [0, 1, 2, 3, 4, 5, 6, 7, 8, 9, 10, 11, 12, 13, 14, 15] 16 (y := 191) (pcN := 22) (dC := 0) (bc1 := 0) (bc2 := 0) (c1 := 0) (c2 := 0) (as := [(4, 0), (0, 0), (0, 1)]) (asC := [(4, 0), (0, 0), (0, 1)]) (LN := [(0, (4, 0)), (1, (0, 0)), (2, (0, x2))]) (stN := []) (hsC := jpA_22) (hsD := jpA_20) (v := (0, 1)) (st2 := [(0, 1)]) (hs2 := jpA_1820) (jA_191_5 (d := 0)) (by rfl) (by rfl) (by decide +kernel) (by rfl) (by rfl) (by omega) (by omega) (by omega) (by omega) rfl (by decide +kernel) ?_
  refine jT_xifF (t := 27) (pcN := 25) jI_283_22 rfl (by decide +kernel) rfl rfl ?_
  refine jT_xiconst (k := 0) (pcN := 26) jI_283_25 rfl ?_
  exact jT_ret rfl (by decide) (by show 16 ≤ 16; decide) (by omega) (by omega) ⟨rfl, rfl, rfl⟩
theorem jA_152_1054 {xs : List Int} {d : Nat} {x2 : Int} (h_x2 : (-2147483648) ≤ x2 ∧ x2 ≤ (-1)) : jT xs (d + 1) 152 23 0 [(0, (4, 0)), (1, (0, 1)), (2, (0, x2))] [] jpA_1845 1 6 (fun k v hsN => k = 1 ∧ v = (0, 0) ∧ hsN = jpA_1845 ++ []) := by
  refine jT_xaload_n (v := (4, 0)) (pcN := 1) jI_152_0 rfl rfl rfl ?_
  refine jT_xiload_n (v := (0, 1)) (pcN := 2) jI_152_1 rfl rfl rfl ?_
  refine jT_xiconst (k := 4) (pcN := 3) jI_152_2 rfl ?_
  refine jT_fR [0] 23 (y := 115) (pcN := 6) (dC := 0) (bc1 := 0) (bc2 := 0) (c1 := 1) (c2 := 6) (as := [(4, 0), (0, 1), (0, 4)]) (asC := [(4, 0), (0, 1), (0, 4)]) (LN := [(0, (4, 0)), (1, (0, 1)), (2, (0, x2))]) (stN := []) (hsC := [jgh]) (v := (9, 0)) (st2 := []) (jA_115_356 (d := 0)) (by rfl) (by rfl) (by decide +kernel) (by rfl) (by rfl) (by omega) (by omega) (by omega) (by omega) rfl ?_
  refine jT_xaload_n (v := (4, 0)) (pcN := 7) jI_152_6 rfl rfl rfl ?_
  refine jT_xgetf (a := 0) (t := 1) (ci := 13) (fi := 11) (c := jzA_5) (v := (4, 11)) (pcN := 10) jI_152_7 rfl rfl rfl rfl rfl rfl rfl ?_
  refine jT_xiload_n (v := (0, 1)) (pcN := 11) jI_152_10 rfl rfl rfl ?_
  refine jT_fR [11, 12, 13, 14, 15, 16, 17, 18, 19, 20] 23 (y := 56) (pcN := 14) (dC := 0) (bc1 := 0) (bc2 := 0) (c1 := 1) (c2 := 6) (as := [(4, 11), (0, 1)]) (asC := [(4, 0), (0, 1)]) (LN := [(0, (4, 0)), (1, (0, 1)), (2, (0, x2))]) (stN := []) (hsC := jpA_1446) (v := (4, 7)) (st2 := [(4, 18)]) (jA_56_357 (d := 0)) (by rfl) (by rfl) (by decide +kernel) (by rfl) (by rfl) (by omega) (by omega) (by omega) (by omega) rfl ?_
  refine jT_xastore_n (v := (4, 18)) (LN := [(3, (4, 18)), (0, (4, 0)), (1, (0, 1)), (2, (0, x2))]) (pcN := 15) jI_152_14 rfl rfl rfl rfl ?_
  refine jT_xaload_n (v := (4, 0)) (pcN := 16) jI_152_15 rfl rfl rfl ?_
  refine jT_xiload_n (v := (0, x2)) (pcN := 17) jI_152_16 rfl rfl rfl ?_
  refine jT_xaload_n (v := (4, 18)) (pcN := 18) jI_152_17 rfl rfl rfl ?_
  refine jT_fR [18, 21, 22] 23 (y := 29) (pcN := 21) (dC := 0) (bc1 := 0) (bc2 := 0) (c1 := 1) (c2 := 6) (as := [(4, 18)]) (asC := [(4, 0)]) (LN := [(3, (4, 18)), (0, (4, 0)), (1, (0, 1)), (2, (0, x2))]) (stN := [(0, x2), (4, 0)]) (hsC := [(7, [(4, 1), (4, (-1)), (4, (-1))], []), (114, [], [2]), jgh]) (v := (0, 1)) (st2 := [(0, 1), (0, x2), (4, 0)]) (jA_29_416 (d := 0)) (by rfl) (by rfl) (by decide +kernel) (by rfl) (by rfl) (by omega) (by omega) (by omega) (by omega) rfl ?_
  exact jT_fX [0] 23 (y := 115) (pcN := 24) (dC := 0) (bc1 := 1) (bc2 := 6) (as := [(4, 0), (0, x2), (0, 1)]) (asC := [(4, 0), (0, x2), (0, 1)]) (LN := [(3, (4, 18)), (0, (4, 0)), (1, (0, 1)), (2, (0, x2))]) (stN := []) (hsC := [jgh]) (e := 0) (jA_115_438 (d := 0) (by omega)) (by rfl) (by rfl) (by decide +kernel) (by rfl) (by rfl) (by omega) (by omega) (by omega) (by omega) ⟨rfl, ⟨rfl, rfl, rfl⟩⟩
theorem jA_356_1055 {xs : List Int} {d : Nat} {x2 : Int} (h_x2 : (-2147483648) ≤ x2 ∧ x2 ≤ (-1)) : jT xs (d + 2) 356 24 0 [(0, (4, 0)), (1, (0, 1)), (2, (0, x2)), (3, (4, 1))] [] jpA_1846 1 6 (fun k v hsN => k = 0 ∧ v = (0, 1) ∧ hsN = jpA_1846 ++ []) := by
  refine jT_xaload_n (v := (4, 1)) (pcN := 1) jI_356_0 rfl rfl rfl ?_
  refine jT_xiconst (k := 0) (pcN := 2) jI_356_1 rfl ?_
  refine jT_xaload_n (v := (4, 0)) (pcN := 3) jI_356_2 rfl rfl rfl ?_
  refine jT_xiload_n (v := (0, 1)) (pcN := 4) jI_356_3 rfl rfl rfl ?_
  refine jT_xiload_n (v := (0, x2)) (pcN := 5) jI_356_4 rfl rfl rfl ?_
  exact jT_fX [0, 2, 3, 4, 5, 6, 7, 8, 9, 10, 11, 12, 13, 14, 15, 16, 17, 18, 19, 20, 21, 22, 23] 24 (y := 152) (pcN := 8) (dC := 1) (bc1 := 1) (bc2 := 6) (as := [(4, 0), (0, 1), (0, x2)]) (asC := [(4, 0), (0, 1), (0, x2)]) (LN := [(0, (4, 0)), (1, (0, 1)), (2, (0, x2)), (3, (4, 1))]) (stN := [(0, 0), (4, 1)]) (hsC := jpA_1845) (e := 0) (jA_152_1054 (d := 0) (by omega)) (by rfl) (by rfl) (by decide +kernel) (by rfl) (by rfl) (by omega) (by omega) (by omega) (by omega) (show _ from ⟨rfl, rfl, rfl⟩)
theorem jA_283_1056 {xs : List Int} {d : Nat} {x2 : Int} (h_x2 : (-2147483648) ≤ x2 ∧ x2 ≤ (-1)) : jT xs (d + 2) 283 16 0 [(0, (4, 0)), (1, (0, 1)), (2, (0, x2))] [] jpA_1519 0 0 (fun k v hsN => k = 0 ∧ v = (0, 0) ∧ hsN = jpA_1820) := by
  refine jT_xaload_n (v := (4, 0)) (pcN := 1) jI_283_0 rfl rfl rfl ?_
  refine jT_xiload_n (v := (0, 1)) (pcN := 2) jI_283_1 rfl rfl rfl ?_
  refine jT_fR [] 16 (y := 238) (pcN := 5) (dC := 1) (bc1 := 0) (bc2 := 0) (c1 := 0) (c2 := 0) (as := [(0, 1)]) (asC := [(0, 1)]) (LN := [(0, (4, 0)), (1, (0, 1)), (2, (0, x2))]) (stN := [(4, 0)]) (hsC := []) (v := (0, 1)) (st2 := [(0, 1), (4, 0)]) (jA_238_362 (d := 0)) (by rfl) (by rfl) (by decide +kernel) (by rfl) (by rfl) (by omega) (by omega) (by omega) (by omega) rfl ?_
  refine jT_fR [0, 1, 2, 3, 4, 5, 6, 7, 8, 9, 10, 11, 12, 13, 14, 15] 16 (y := 190) (pcN := 8) (dC := 1) (bc1 := 0) (bc2 := 0) (c1 := 0) (c2 := 0) (as := [(4, 0), (0, 1)]) (asC := [(4, 0), (0, 1)]) (LN := [(0, (4, 0)), (1, (0, 1)), (2, (0, x2))]) (stN := []) (hsC := jpA_22) (v := (0, 0)) (st2 := [(0, 0)]) (jA_190_39 (d := 0)) (by rfl) (by rfl) (by decide +kernel) (by rfl) (by rfl) (by omega) (by omega) (by omega) (by omega) rfl ?_
  refine jT_xifF (t := 25) (pcN := 11) jI_283_8 rfl (by decide +kernel) rfl rfl ?_
  refine jT_xaload_n (v := (4, 0)) (pcN := 12) jI_283_11 rfl rfl rfl ?_
  refine jT_xaload_n (v := (4, 0)) (pcN := 13) jI_283_12 rfl rfl rfl ?_
  refine jT_xiload_n (v := (0, 1)) (pcN := 14) jI_283_13 rfl rfl rfl ?_
  refine jT_xiload_n (v := (0, x2)) (pcN := 15) jI_283_14 rfl rfl rfl ?_
  refine jT_fR [0, 1, 2, 3, 4, 5, 6, 7, 8, 9, 10, 11, 12, 13, 14, 15] 16 (y := 247) (pcN := 18) (dC := 1) (bc1 := 0) (bc2 := 0) (c1 := 0) (c2 := 0) (as := [(4, 0), (0, 1), (0, x2)]) (asC := [(4, 0), (0, 1), (0, x2)]) (LN := [(0, (4, 0)), (1, (0, 1)), (2, (0, x2))]) (stN := [(4, 0)]) (hsC := jpA_1519) (v := (0, 0)) (st2 := [(0, 0), (4, 0)]) (jA_247_460 (d := 0) (by omega)) (by rfl) (by rfl) (by decide +kernel) (by rfl) (by rfl) (by omega) (by omega) (by omega) (by omega) rfl ?_
  refine jT_xiconst (k := 1) (pcN := 19) jI_283_18 rfl ?_
  refine jT_fB [0, 1, 2, 3, 4, 5, 6, 7, 8, 9, 10, 11, 12, 13, 14, 15] 16 (y := 191) (pcN := 22) (dC := 0) (bc1 := 0) (bc2 := 0) (c1 := 0) (c2 := 0) (as := [(4, 0), (0, 0), (0, 1)]) (asC := [(4, 0), (0, 0), (0, 1)]) (LN := [(0, (4, 0)), (1, (0, 1)), (2, (0, x2))]) (stN := []) (hsC := jpA_22) (hsD := jpA_20) (v := (0, 1)) (st2 := [(0, 1)]) (hs2 := jpA_1820) (jA_191_5 (d := 0)) (by rfl) (by rfl) (by decide +kernel) (by rfl) (by rfl) (by omega) (by omega) (by omega) (by omega) rfl (by decide +kernel) ?_
  refine jT_xifF (t := 27) (pcN := 25) jI_283_22 rfl (by decide +kernel) rfl rfl ?_
  refine jT_xiconst (k := 0) (pcN := 26) jI_283_25 rfl ?_
  exact jT_ret rfl (by decide) (by show 16 ≤ 16; decide) (by omega) (by omega) ⟨rfl, rfl, rfl⟩
theorem jA_152_1057 {xs : List Int} {d : Nat} : jT xs (d + 6) 152 26 0 [(0, (4, 0)), (1, (0, 1)), (2, (0, 0))] [] jpA_3768 7 19 (fun k v hsN => k = 0 ∧ v = (0, 0) ∧ hsN = jpA_3769) := by
  refine jT_advK 3 (pcN := 3) (LN := [(0, (4, 0)), (1, (0, 1)), (2, (0, 0))]) (stN := [(0, 4), (0, 1), (4, 0)]) (hsN := jpA_3768) (c1 := 0) (s1 := 0) (c2 := 7) (s2 := 19) (by decide +kernel) ?_ (by omega) (by omega)
  refine jT_fR [0] 26 (y := 115) (pcN := 6) (dC := 0) (bc1 := 0) (bc2 := 0) (c1 := 7) (c2 := 19) (as := [(4, 0), (0, 1), (0, 4)]) (asC := [(4, 0), (0, 1), (0, 4)]) (LN := [(0, (4, 0)), (1, (0, 1)), (2, (0, 0))]) (stN := []) (hsC := [jgh]) (v := (9, 0)) (st2 := []) (jA_115_356 (d := 0)) (by rfl) (by rfl) (by decide +kernel) (by rfl) (by rfl) (by omega) (by omega) (by omega) (by omega) rfl ?_
  refine jT_advK 3 (pcN := 11) (LN := [(0, (4, 0)), (1, (0, 1)), (2, (0, 0))]) (stN := [(0, 1), (4, 11)]) (hsN := jpA_3768) (c1 := 0) (s1 := 0) (c2 := 7) (s2 := 19) (by decide +kernel) ?_ (by omega) (by omega)
  refine jT_fR [11, 14, 15, 16, 17, 18, 19, 20, 21, 22] 26 (y := 56) (pcN := 14) (dC := 0) (bc1 := 0) (bc2 := 0) (c1 := 7) (c2 := 19) (as := [(4, 11), (0, 1)]) (asC := [(4, 0), (0, 1)]) (LN := [(0, (4, 0)), (1, (0, 1)), (2, (0, 0))]) (stN := []) (hsC := jpA_1446) (v := (4, 7)) (st2 := [(4, 20)]) (jA_56_357 (d := 0)) (by rfl) (by rfl) (by decide +kernel) (by rfl) (by rfl) (by omega) (by omega) (by omega) (by omega) rfl ?_
  refine jT_advK 4 (pcN := 18) (LN := [(3, (4, 20)), (0, (4, 0)), (1, (0, 1)), (2, (0, 0))]) (stN := [(4, 20), (0, 0), (4, 0)]) (hsN := jpA_3768) (c1 := 0) (s1 := 0) (c2 := 7) (s2 := 19) (by decide +kernel) ?_ (by omega) (by omega)
  refine jT_fR [20, 23, 24] 26 (y := 29) (pcN := 21) (dC := 0) (bc1 := 0) (bc2 := 0) (c1 := 7) (c2 := 19) (as := [(4, 20)]) (asC := [(4, 0)]) (LN := [(3, (4, 20)), (0, (4, 0)), (1, (0, 1)), (2, (0, 0))]) (stN := [(0, 0), (4, 0)]) (hsC := [(7, [(4, 1), (4, (-1)), (4, (-1))], []), (114, [], [2]), jgh]) (v := (0, 1)) (st2 := [(0, 1), (0, 0), (4, 0)]) (jA_29_416 (d := 0)) (by rfl) (by rfl) (by decide +kernel) (by rfl) (by rfl) (by omega) (by omega) (by omega) (by omega) rfl ?_
  refine jT_fR [0] 26 (y := 115) (pcN := 24) (dC := 0) (bc1 := 0) (bc2 := 0) (c1 := 7) (c2 := 19) (as := [(4, 0), (0, 0), (0, 1)]) (asC := [(4, 0), (0, 0), (0, 1)]) (LN := [(3, (4, 20)), (0, (4, 0)), (1, (0, 1)), (2, (0, 0))]) (stN := []) (hsC := [jgh]) (v := (9, 0)) (st2 := []) (jA_115_443 (d := 0)) (by rfl) (by rfl) (by decide +kernel) (by rfl) (by rfl) (by omega) (by omega) (by omega) (by omega) rfl ?_
  refine jT_advK 3 (pcN := 29) (LN := [(3, (4, 20)), (0, (4, 0)), (1, (0, 1)), (2, (0, 0))]) (stN := [(4, 1), (4, 20)]) (hsN := jpA_3768) (c1 := 0) (s1 := 0) (c2 := 7) (s2 := 19) (by decide +kernel) ?_ (by omega) (by omega)
  refine jT_fB [20, 1, 23, 12, 13, 24, 25] 26 (y := 36) (pcN := 32) (dC := 5) (bc1 := 7) (bc2 := 19) (c1 := 0) (c2 := 0) (as := [(4, 20), (4, 1)]) (asC := [(4, 0), (4, 1)]) (LN := [(3, (4, 20)), (0, (4, 0)), (1, (0, 1)), (2, (0, 0))]) (stN := []) (hsC := jpA_3741) (hsD := jpA_3740) (v := (4, 13)) (st2 := [(4, 32)]) (hs2 := jpA_3769) (jA_36_1012 (d := 0)) (by rfl) (by rfl) (by decide +kernel) (by rfl) (by rfl) (by omega) (by omega) (by omega) (by omega) rfl (by decide +kernel) ?_
  refine jT_advK 2 (pcN := 34) (LN := [(3, (4, 20)), (0, (4, 0)), (1, (0, 1)), (2, (0, 0))]) (stN := [(0, 0)]) (hsN := jpA_3769) (c1 := 0) (s1 := 0) (c2 := 0) (s2 := 0) (by decide +kernel) ?_ (by omega) (by omega)
  exact jT_ret rfl (by decide) (by show 26 ≤ 33; decide) (by omega) (by omega) ⟨rfl, rfl, rfl⟩
theorem jA_356_1058 {xs : List Int} {d : Nat} : jT xs (d + 7) 356 27 0 [(0, (4, 0)), (1, (0, 1)), (2, (0, 0)), (3, (4, 1))] [] jpA_3770 7 19 (fun k v hsN => k = 0 ∧ v = (0, 0) ∧ hsN = jpA_3771) := by
  refine jT_advK 5 (pcN := 5) (LN := [(0, (4, 0)), (1, (0, 1)), (2, (0, 0)), (3, (4, 1))]) (stN := [(0, 0), (0, 1), (4, 0), (0, 0), (4, 1)]) (hsN := jpA_3770) (c1 := 0) (s1 := 0) (c2 := 7) (s2 := 19) (by decide +kernel) ?_ (by omega) (by omega)
  refine jT_fB [0, 2, 3, 4, 5, 6, 7, 8, 9, 10, 11, 12, 13, 14, 15, 16, 17, 18, 19, 20, 21, 22, 23, 24, 25, 26] 27 (y := 152) (pcN := 8) (dC := 6) (bc1 := 7) (bc2 := 19) (c1 := 0) (c2 := 0) (as := [(4, 0), (0, 1), (0, 0)]) (asC := [(4, 0), (0, 1), (0, 0)]) (LN := [(0, (4, 0)), (1, (0, 1)), (2, (0, 0)), (3, (4, 1))]) (stN := [(0, 0), (4, 1)]) (hsC := jpA_3768) (hsD := jpA_3769) (v := (0, 0)) (st2 := [(0, 0), (0, 0), (4, 1)]) (hs2 := jpA_3771) (jA_152_1057 (d := 0)) (by rfl) (by rfl) (by decide +kernel) (by rfl) (by rfl) (by omega) (by omega) (by omega) (by omega) rfl (by decide +kernel) ?_
  refine jT_advK 4 (pcN := 18) (LN := [(0, (4, 0)), (1, (0, 1)), (2, (0, 0)), (3, (4, 1))]) (stN := [(0, 0)]) (hsN := jpA_3771) (c1 := 0) (s1 := 0) (c2 := 0) (s2 := 0) (by decide +kernel) ?_ (by omega) (by omega)
  exact jT_ret rfl (by decide) (by show 27 ≤ 34; decide) (by omega) (by omega) ⟨rfl, rfl, rfl⟩
theorem jA_203_1059 {xs : List Int} {d : Nat} : jT xs d 203 16 0 [(0, (4, 0)), (1, (4, 1)), (2, (0, 338))] [] jpA_3846 0 0 (fun k v hsN => k = 0 ∧ v = (9, 0) ∧ hsN = jpA_3847) := by
  refine jT_advK 12 (pcN := 17) (LN := [(3, (0, 0)), (0, (4, 0)), (1, (4, 1)), (2, (0, 338))]) (stN := [(0, 338), (4, 1), (0, 0), (4, 7)]) (hsN := jpA_3846) (c1 := 0) (s1 := 0) (c2 := 0) (s2 := 0) (by decide +kernel) ?_ (by omega) (by omega)
  refine jT_iald (x := 0) (a := 1) (j := 338) (fs := []) (X := jS0) (by rfl) (by rfl) (by rfl) (by rfl) (by decide +kernel) ?_
  refine jT_eq (LN := [(3, (0, 0)), (0, (4, 0)), (1, (4, 1)), (2, (0, 338))]) (stN := [(0, 0), (0, 0), (4, 7)]) (hsN := jpA_3846) rfl rfl rfl ?_
  refine jT_advK 14 (pcN := 17) (LN := [(3, (0, 1)), (0, (4, 0)), (1, (4, 1)), (2, (0, 338))]) (stN := [(0, 339), (4, 1), (0, 1), (4, 7)]) (hsN := jpA_3847) (c1 := 0) (s1 := 0) (c2 := 0) (s2 := 0) (by decide +kernel) ?_ (by omega) (by omega)
  refine jT_iald (x := 0) (a := 1) (j := 339) (fs := []) (X := jS0) (by rfl) (by rfl) (by rfl) (by rfl) (by decide +kernel) ?_
  refine jT_eq (LN := [(3, (0, 1)), (0, (4, 0)), (1, (4, 1)), (2, (0, 338))]) (stN := [(0, 0), (0, 1), (4, 7)]) (hsN := jpA_3847) rfl rfl rfl ?_
  refine jT_advK 14 (pcN := 17) (LN := [(3, (0, 2)), (0, (4, 0)), (1, (4, 1)), (2, (0, 338))]) (stN := [(0, 340), (4, 1), (0, 2), (4, 7)]) (hsN := jpA_3847) (c1 := 0) (s1 := 0) (c2 := 0) (s2 := 0) (by decide +kernel) ?_ (by omega) (by omega)
  refine jT_iald (x := 0) (a := 1) (j := 340) (fs := []) (X := jS0) (by rfl) (by rfl) (by rfl) (by rfl) (by decide +kernel) ?_
  refine jT_eq (LN := [(3, (0, 2)), (0, (4, 0)), (1, (4, 1)), (2, (0, 338))]) (stN := [(0, 0), (0, 2), (4, 7)]) (hsN := jpA_3847) rfl rfl rfl ?_
  refine jT_advK 14 (pcN := 17) (LN := [(3, (0, 3)), (0, (4, 0)), (1, (4, 1)), (2, (0, 338))]) (stN := [(0, 341), (4, 1), (0, 3), (4, 7)]) (hsN := jpA_3847) (c1 := 0) (s1 := 0) (c2 := 0) (s2 := 0) (by decide +kernel) ?_ (by omega) (by omega)
  refine jT_iald (x := 0) (a := 1) (j := 341) (fs := []) (X := jS0) (by rfl) (by rfl) (by rfl) (by rfl) (by decide +kernel) ?_
  refine jT_eq (LN := [(3, (0, 3)), (0, (4, 0)), (1, (4, 1)), (2, (0, 338))]) (stN := [(0, 0), (0, 3), (4, 7)]) (hsN := jpA_3847) rfl rfl rfl ?_
  refine jT_advK 14 (pcN := 17) (LN := [(3, (0, 4)), (0, (4, 0)), (1, (4, 1)), (2, (0, 338))]) (stN := [(0, 342), (4, 1), (0, 4), (4, 7)]) (hsN := jpA_3847) (c1 := 0) (s1 := 0) (c2 := 0) (s2 := 0) (by decide +kernel) ?_ (by omega) (by omega)
  refine jT_iald (x := 0) (a := 1) (j := 342) (fs := []) (X := jS0) (by rfl) (by rfl) (by rfl) (by rfl) (by decide +kernel) ?_
  refine jT_eq (LN := [(3, (0, 4)), (0, (4, 0)), (1, (4, 1)), (2, (0, 338))]) (stN := [(0, 0), (0, 4), (4, 7)]) (hsN := jpA_3847) rfl rfl rfl ?_
  refine jT_advK 14 (pcN := 17) (LN := [(3, (0, 5)), (0, (4, 0)), (1, (4, 1)), (2, (0, 338))]) (stN := [(0, 343), (4, 1), (0, 5), (4, 7)]) (hsN := jpA_3847) (c1 := 0) (s1 := 0) (c2 := 0) (s2 := 0) (by decide +kernel) ?_ (by omega) (by omega)
  refine jT_iald (x := 0) (a := 1) (j := 343) (fs := []) (X := jS0) (by rfl) (by rfl) (by rfl) (by rfl) (by decide +kernel) ?_
  refine jT_eq (LN := [(3, (0, 5)), (0, (4, 0)), (1, (4, 1)), (2, (0, 338))]) (stN := [(0, 0), (0, 5), (4, 7)]) (hsN := jpA_3847) rfl rfl rfl ?_
  refine jT_advK 12 (pcN := 32) (LN := [(3, (0, 6)), (0, (4, 0)), (1, (4, 1)), (2, (0, 338))]) (stN := [(0, 344), (4, 1), (4, 0)]) (hsN := jpA_3847) (c1 := 0) (s1 := 0) (c2 := 0) (s2 := 0) (by decide +kernel) ?_ (by omega) (by omega)
  refine jT_iald (x := 1) (a := 1) (j := 344) (fs := []) (X := jS0) (by rfl) (by rfl) (by rfl) (by rfl) (by decide +kernel) ?_
  refine jT_eq (LN := [(3, (0, 6)), (0, (4, 0)), (1, (4, 1)), (2, (0, 338))]) (stN := [(0, 1), (4, 0)]) (hsN := jpA_3847) rfl rfl rfl ?_
  refine jT_advK 2 (pcN := 37) (LN := [(3, (0, 6)), (0, (4, 0)), (1, (4, 1)), (2, (0, 338))]) (stN := []) (hsN := jpA_3847) (c1 := 0) (s1 := 0) (c2 := 0) (s2 := 0) (by decide +kernel) ?_ (by omega) (by omega)
  exact jT_ret rfl (by decide) (by show 16 ≤ 16; decide) (by omega) (by omega) ⟨rfl, rfl, rfl⟩
theorem jA_204_1060 {xs : List Int} {d : Nat} : jT xs (d + 3) 204 16 0 [(0, (4, 0)), (1, (4, 1)), (2, (0, 338)), (3, (1, (-1)))] [] jpA_3846 0 0 (fun k v hsN => k = 0 ∧ v = (9, 0) ∧ hsN = jpA_3846 ++ []) := by
  refine jT_advK 4 (pcN := 5) (LN := [(0, (4, 0)), (1, (4, 1)), (2, (0, 338)), (3, (1, (-1)))]) (stN := [(0, 344), (4, 1)]) (hsN := jpA_3846) (c1 := 0) (s1 := 0) (c2 := 0) (s2 := 0) (by decide +kernel) ?_ (by omega) (by omega)
  refine jT_iald (x := 1) (a := 1) (j := 344) (fs := []) (X := jS0) (by rfl) (by rfl) (by rfl) (by rfl) (by decide +kernel) ?_
  refine jT_eq (LN := [(0, (4, 0)), (1, (4, 1)), (2, (0, 338)), (3, (1, (-1)))]) (stN := [(0, 1)]) (hsN := jpA_3846) rfl rfl rfl ?_
  refine jT_advK 7 (pcN := 19) (LN := [(5, (1, 1)), (0, (4, 0)), (1, (4, 1)), (2, (0, 338)), (3, (1, (-1)))]) (stN := [(1, 1), (1, 1), (1, 1)]) (hsN := jpA_3846) (c1 := 0) (s1 := 0) (c2 := 0) (s2 := 0) (by decide +kernel) ?_ (by omega) (by omega)
  refine jT_fR [] 16 (y := 194) (pcN := 22) (dC := 1) (bc1 := 0) (bc2 := 0) (c1 := 0) (c2 := 0) (as := [(1, 1), (1, 1)]) (asC := [(1, 1), (1, 1)]) (LN := [(5, (1, 1)), (0, (4, 0)), (1, (4, 1)), (2, (0, 338)), (3, (1, (-1)))]) (stN := [(1, 1)]) (hsC := []) (v := (1, 1)) (st2 := [(1, 1), (1, 1)]) (jA_194_43 (d := 0)) (by rfl) (by rfl) (by decide +kernel) (by rfl) (by rfl) (by omega) (by omega) (by omega) (by omega) rfl ?_
  refine jT_advK 26 (pcN := 65) (LN := [(9, (0, 0)), (7, (1, 1)), (5, (1, 1)), (0, (4, 0)), (1, (4, 1)), (2, (0, 338)), (3, (1, (-1)))]) (stN := [(0, 338), (4, 1), (1, (-1)), (1, 1), (0, 0), (4, 7)]) (hsN := jpA_3846) (c1 := 0) (s1 := 0) (c2 := 0) (s2 := 0) (by decide +kernel) ?_ (by omega) (by omega)
  refine jT_iald (x := 0) (a := 1) (j := 338) (fs := []) (X := jS0) (by rfl) (by rfl) (by rfl) (by rfl) (by decide +kernel) ?_
  refine jT_eq (LN := [(9, (0, 0)), (7, (1, 1)), (5, (1, 1)), (0, (4, 0)), (1, (4, 1)), (2, (0, 338)), (3, (1, (-1)))]) (stN := [(0, 0), (1, (-1)), (1, 1), (0, 0), (4, 7)]) (hsN := jpA_3846) rfl rfl rfl ?_
  refine jT_advK 30 (pcN := 65) (LN := [(9, (0, 1)), (7, (1, 1)), (5, (1, 1)), (0, (4, 0)), (1, (4, 1)), (2, (0, 338)), (3, (1, (-1)))]) (stN := [(0, 339), (4, 1), (1, (-1)), (1, 0), (0, 1), (4, 7)]) (hsN := jpA_3846) (c1 := 0) (s1 := 0) (c2 := 0) (s2 := 0) (by decide +kernel) ?_ (by omega) (by omega)
  refine jT_iald (x := 0) (a := 1) (j := 339) (fs := []) (X := jS0) (by rfl) (by rfl) (by rfl) (by rfl) (by decide +kernel) ?_
  refine jT_eq (LN := [(9, (0, 1)), (7, (1, 1)), (5, (1, 1)), (0, (4, 0)), (1, (4, 1)), (2, (0, 338)), (3, (1, (-1)))]) (stN := [(0, 0), (1, (-1)), (1, 0), (0, 1), (4, 7)]) (hsN := jpA_3846) rfl rfl rfl ?_
  refine jT_advK 30 (pcN := 65) (LN := [(9, (0, 2)), (7, (1, 1)), (5, (1, 1)), (0, (4, 0)), (1, (4, 1)), (2, (0, 338)), (3, (1, (-1)))]) (stN := [(0, 340), (4, 1), (1, (-1)), (1, 0), (0, 2), (4, 7)]) (hsN := jpA_3846) (c1 := 0) (s1 := 0) (c2 := 0) (s2 := 0) (by decide +kernel) ?_ (by omega) (by omega)
  refine jT_iald (x := 0) (a := 1) (j := 340) (fs := []) (X := jS0) (by rfl) (by rfl) (by rfl) (by rfl) (by decide +kernel) ?_
  refine jT_eq (LN := [(9, (0, 2)), (7, (1, 1)), (5, (1, 1)), (0, (4, 0)), (1, (4, 1)), (2, (0, 338)), (3, (1, (-1)))]) (stN := [(0, 0), (1, (-1)), (1, 0), (0, 2), (4, 7)]) (hsN := jpA_3846) rfl rfl rfl ?_
  refine jT_advK 30 (pcN := 65) (LN := [(9, (0, 3)), (7, (1, 1)), (5, (1, 1)), (0, (4, 0)), (1, (4, 1)), (2, (0, 338)), (3, (1, (-1)))]) (stN := [(0, 341), (4, 1), (1, (-1)), (1, 0), (0, 3), (4, 7)]) (hsN := jpA_3846) (c1 := 0) (s1 := 0) (c2 := 0) (s2 := 0) (by decide +kernel) ?_ (by omega) (by omega)
  refine jT_iald (x := 0) (a := 1) (j := 341) (fs := []) (X := jS0) (by rfl) (by rfl) (by rfl) (by rfl) (by decide +kernel) ?_
  refine jT_eq (LN := [(9, (0, 3)), (7, (1, 1)), (5, (1, 1)), (0, (4, 0)), (1, (4, 1)), (2, (0, 338)), (3, (1, (-1)))]) (stN := [(0, 0), (1, (-1)), (1, 0), (0, 3), (4, 7)]) (hsN := jpA_3846) rfl rfl rfl ?_
  refine jT_advK 30 (pcN := 65) (LN := [(9, (0, 4)), (7, (1, 1)), (5, (1, 1)), (0, (4, 0)), (1, (4, 1)), (2, (0, 338)), (3, (1, (-1)))]) (stN := [(0, 342), (4, 1), (1, (-1)), (1, 0), (0, 4), (4, 7)]) (hsN := jpA_3846) (c1 := 0) (s1 := 0) (c2 := 0) (s2 := 0) (by decide +kernel) ?_ (by omega) (by omega)
  refine jT_iald (x := 0) (a := 1) (j := 342) (fs := []) (X := jS0) (by rfl) (by rfl) (by rfl) (by rfl) (by decide +kernel) ?_
  refine jT_eq (LN := [(9, (0, 4)), (7, (1, 1)), (5, (1, 1)), (0, (4, 0)), (1, (4, 1)), (2, (0, 338)), (3, (1, (-1)))]) (stN := [(0, 0), (1, (-1)), (1, 0), (0, 4), (4, 7)]) (hsN := jpA_3846) rfl rfl rfl ?_
  refine jT_advK 30 (pcN := 65) (LN := [(9, (0, 5)), (7, (1, 1)), (5, (1, 1)), (0, (4, 0)), (1, (4, 1)), (2, (0, 338)), (3, (1, (-1)))]) (stN := [(0, 343), (4, 1), (1, (-1)), (1, 0), (0, 5), (4, 7)]) (hsN := jpA_3846) (c1 := 0) (s1 := 0) (c2 := 0) (s2 := 0) (by decide +kernel) ?_ (by omega) (by omega)
  refine jT_iald (x := 0) (a := 1) (j := 343) (fs := []) (X := jS0) (by rfl) (by rfl) (by rfl) (by rfl) (by decide +kernel) ?_
  refine jT_eq (LN := [(9, (0, 5)), (7, (1, 1)), (5, (1, 1)), (0, (4, 0)), (1, (4, 1)), (2, (0, 338)), (3, (1, (-1)))]) (stN := [(0, 0), (1, (-1)), (1, 0), (0, 5), (4, 7)]) (hsN := jpA_3846) rfl rfl rfl ?_
  refine jT_advK 17 (pcN := 89) (LN := [(9, (0, 6)), (7, (1, 1)), (5, (1, 1)), (0, (4, 0)), (1, (4, 1)), (2, (0, 338)), (3, (1, (-1)))]) (stN := [(4, 0)]) (hsN := jpA_3846) (c1 := 0) (s1 := 0) (c2 := 0) (s2 := 0) (by decide +kernel) ?_ (by omega) (by omega)
  refine jT_fR [0, 1, 2, 3, 4, 5, 6, 7, 8, 9, 10, 11, 12, 13, 14, 15] 16 (y := 199) (pcN := 92) (dC := 2) (bc1 := 0) (bc2 := 0) (c1 := 0) (c2 := 0) (as := [(4, 0)]) (asC := [(4, 0)]) (LN := [(9, (0, 6)), (7, (1, 1)), (5, (1, 1)), (0, (4, 0)), (1, (4, 1)), (2, (0, 338)), (3, (1, (-1)))]) (stN := []) (hsC := jpA_3848) (v := (9, 0)) (st2 := []) (jA_199_1045 (d := 0)) (by rfl) (by rfl) (by decide +kernel) (by rfl) (by rfl) (by omega) (by omega) (by omega) (by omega) rfl ?_
  exact jT_ret rfl (by decide) (by show 16 ≤ 16; decide) (by omega) (by omega) ⟨rfl, rfl, rfl⟩
theorem jA_280_1061 {xs : List Int} {d : Nat} : jT xs (d + 4) 280 16 0 [(0, (4, 0)), (1, (0, 1)), (2, (0, 0))] [] jpA_3846 0 0 (fun k v hsN => k = 0 ∧ v = (9, 0) ∧ hsN = jpA_3846 ++ []) := by
  refine jT_advK 5 (pcN := 5) (LN := [(0, (4, 0)), (1, (0, 1)), (2, (0, 0))]) (stN := [(0, 1), (4, 0), (0, 1)]) (hsN := jpA_3846) (c1 := 0) (s1 := 0) (c2 := 0) (s2 := 0) (by decide +kernel) ?_ (by omega) (by omega)
  refine jT_fR [0, 1, 2, 3, 4, 5, 6, 7, 8, 9, 10, 11, 12, 13, 14, 15] 16 (y := 245) (pcN := 8) (dC := 0) (bc1 := 0) (bc2 := 0) (c1 := 0) (c2 := 0) (as := [(4, 0), (0, 1)]) (asC := [(4, 0), (0, 1)]) (LN := [(0, (4, 0)), (1, (0, 1)), (2, (0, 0))]) (stN := [(0, 1)]) (hsC := jpA_1545) (v := (0, 1)) (st2 := [(0, 1), (0, 1)]) (jA_245_368 (d := 0)) (by rfl) (by rfl) (by decide +kernel) (by rfl) (by rfl) (by omega) (by omega) (by omega) (by omega) rfl ?_
  refine jT_advK 7 (pcN := 17) (LN := [(3, (0, 0)), (0, (4, 0)), (1, (0, 1)), (2, (0, 0))]) (stN := [(0, 0), (0, 1), (4, 1), (4, 0)]) (hsN := jpA_3846) (c1 := 0) (s1 := 0) (c2 := 0) (s2 := 0) (by decide +kernel) ?_ (by omega) (by omega)
  refine jT_fR [] 16 (y := 242) (pcN := 20) (dC := 0) (bc1 := 0) (bc2 := 0) (c1 := 0) (c2 := 0) (as := [(0, 1), (0, 0)]) (asC := [(0, 1), (0, 0)]) (LN := [(3, (0, 0)), (0, (4, 0)), (1, (0, 1)), (2, (0, 0))]) (stN := [(4, 1), (4, 0)]) (hsC := []) (v := (0, 338)) (st2 := [(0, 338), (4, 1), (4, 0)]) (jA_242_364 (d := 0)) (by rfl) (by rfl) (by decide +kernel) (by rfl) (by rfl) (by omega) (by omega) (by omega) (by omega) rfl ?_
  refine jT_fB [0, 1, 2, 3, 4, 5, 6, 7, 8, 9, 10, 11, 12, 13, 14, 15] 16 (y := 203) (pcN := 23) (dC := 0) (bc1 := 0) (bc2 := 0) (c1 := 0) (c2 := 0) (as := [(4, 0), (4, 1), (0, 338)]) (asC := [(4, 0), (4, 1), (0, 338)]) (LN := [(3, (0, 0)), (0, (4, 0)), (1, (0, 1)), (2, (0, 0))]) (stN := []) (hsC := jpA_3846) (hsD := jpA_3847) (v := (9, 0)) (st2 := []) (hs2 := jpA_3847) (jA_203_1059 (d := 0)) (by rfl) (by rfl) (by decide +kernel) (by rfl) (by rfl) (by omega) (by omega) (by omega) (by omega) rfl (by decide +kernel) ?_
  refine jT_advK 16 (pcN := 47) (LN := [(3, (0, 0)), (0, (4, 0)), (1, (0, 1)), (2, (0, 0))]) (stN := [(0, 0), (0, 1), (4, 1), (4, 0)]) (hsN := jpA_3846) (c1 := 0) (s1 := 0) (c2 := 0) (s2 := 0) (by decide +kernel) ?_ (by omega) (by omega)
  refine jT_fR [] 16 (y := 242) (pcN := 50) (dC := 0) (bc1 := 0) (bc2 := 0) (c1 := 0) (c2 := 0) (as := [(0, 1), (0, 0)]) (asC := [(0, 1), (0, 0)]) (LN := [(3, (0, 0)), (0, (4, 0)), (1, (0, 1)), (2, (0, 0))]) (stN := [(4, 1), (4, 0)]) (hsC := []) (v := (0, 338)) (st2 := [(0, 338), (4, 1), (4, 0)]) (jA_242_364 (d := 0)) (by rfl) (by rfl) (by decide +kernel) (by rfl) (by rfl) (by omega) (by omega) (by omega) (by omega) rfl ?_
  refine jT_advK 1 (pcN := 53) (LN := [(3, (0, 0)), (0, (4, 0)), (1, (0, 1)), (2, (0, 0))]) (stN := [(1, (-1)), (0, 338), (4, 1), (4, 0)]) (hsN := jpA_3846) (c1 := 0) (s1 := 0) (c2 := 0) (s2 := 0) (by decide +kernel) ?_ (by omega) (by omega)
  refine jT_fR [0, 1, 2, 3, 4, 5, 6, 7, 8, 9, 10, 11, 12, 13, 14, 15] 16 (y := 204) (pcN := 56) (dC := 3) (bc1 := 0) (bc2 := 0) (c1 := 0) (c2 := 0) (as := [(4, 0), (4, 1), (0, 338), (1, (-1))]) (asC := [(4, 0), (4, 1), (0, 338), (1, (-1))]) (LN := [(3, (0, 0)), (0, (4, 0)), (1, (0, 1)), (2, (0, 0))]) (stN := []) (hsC := jpA_3846) (v := (9, 0)) (st2 := []) (jA_204_1060 (d := 0)) (by rfl) (by rfl) (by decide +kernel) (by rfl) (by rfl) (by omega) (by omega) (by omega) (by omega) rfl ?_
  exact jT_ret rfl (by decide) (by show 16 ≤ 16; decide) (by omega) (by omega) ⟨rfl, rfl, rfl⟩
theorem jA_284_1062 {xs : List Int} {d : Nat} : jT xs (d + 5) 284 16 0 [(0, (4, 0)), (1, (0, 1)), (2, (0, 0))] [] jpA_3766 0 0 (fun k v hsN => k = 0 ∧ v = (0, 0) ∧ hsN = jpA_3766 ++ []) := by
  refine jT_advK 3 (pcN := 3) (LN := [(0, (4, 0)), (1, (0, 1)), (2, (0, 0))]) (stN := [(0, 0), (0, 1), (4, 0)]) (hsN := jpA_3766) (c1 := 0) (s1 := 0) (c2 := 0) (s2 := 0) (by decide +kernel) ?_ (by omega) (by omega)
  refine jT_fR [0, 1, 2, 3, 4, 5, 6, 7, 8, 9, 10, 11, 12, 13, 14, 15] 16 (y := 280) (pcN := 6) (dC := 4) (bc1 := 0) (bc2 := 0) (c1 := 0) (c2 := 0) (as := [(4, 0), (0, 1), (0, 0)]) (asC := [(4, 0), (0, 1), (0, 0)]) (LN := [(0, (4, 0)), (1, (0, 1)), (2, (0, 0))]) (stN := []) (hsC := jpA_3846) (v := (9, 0)) (st2 := []) (jA_280_1061 (d := 0)) (by rfl) (by rfl) (by decide +kernel) (by rfl) (by rfl) (by omega) (by omega) (by omega) (by omega) rfl ?_
  refine jT_advK 8 (pcN := 17) (LN := [(3, (0, 0)), (0, (4, 0)), (1, (0, 1)), (2, (0, 0))]) (stN := [(0, 0), (4, 8), (4, 0)]) (hsN := jpA_3766) (c1 := 0) (s1 := 0) (c2 := 0) (s2 := 0) (by decide +kernel) ?_ (by omega) (by omega)
  refine jT_fR [0, 8, 1, 2, 3, 4, 5, 6, 7, 9, 10, 11, 12, 13, 14, 15] 16 (y := 236) (pcN := 20) (dC := 0) (bc1 := 0) (bc2 := 0) (c1 := 0) (c2 := 0) (as := [(4, 0), (4, 8), (0, 0)]) (asC := [(4, 0), (4, 1), (0, 0)]) (LN := [(3, (0, 0)), (0, (4, 0)), (1, (0, 1)), (2, (0, 0))]) (stN := []) (hsC := jpA_3849) (v := (0, 1)) (st2 := [(0, 1)]) (jA_236_1048 (d := 0)) (by rfl) (by rfl) (by decide +kernel) (by rfl) (by rfl) (by omega) (by omega) (by omega) (by omega) rfl ?_
  refine jT_advK 2 (pcN := 30) (LN := [(3, (0, 0)), (0, (4, 0)), (1, (0, 1)), (2, (0, 0))]) (stN := [(0, 0)]) (hsN := jpA_3766) (c1 := 0) (s1 := 0) (c2 := 0) (s2 := 0) (by decide +kernel) ?_ (by omega) (by omega)
  exact jT_ret rfl (by decide) (by show 16 ≤ 16; decide) (by omega) (by omega) ⟨rfl, rfl, rfl⟩
theorem jA_283_1063 {xs : List Int} {d : Nat} : jT xs (d + 6) 283 16 0 [(0, (4, 0)), (1, (0, 1)), (2, (0, 0))] [] jpA_1840 0 0 (fun k v hsN => k = 0 ∧ v = (0, 0) ∧ hsN = jpA_3766) := by
  refine jT_advK 2 (pcN := 2) (LN := [(0, (4, 0)), (1, (0, 1)), (2, (0, 0))]) (stN := [(0, 1), (4, 0)]) (hsN := jpA_1840) (c1 := 0) (s1 := 0) (c2 := 0) (s2 := 0) (by decide +kernel) ?_ (by omega) (by omega)
  refine jT_fR [] 16 (y := 238) (pcN := 5) (dC := 1) (bc1 := 0) (bc2 := 0) (c1 := 0) (c2 := 0) (as := [(0, 1)]) (asC := [(0, 1)]) (LN := [(0, (4, 0)), (1, (0, 1)), (2, (0, 0))]) (stN := [(4, 0)]) (hsC := []) (v := (0, 1)) (st2 := [(0, 1), (4, 0)]) (jA_238_362 (d := 0)) (by rfl) (by rfl) (by decide +kernel) (by rfl) (by rfl) (by omega) (by omega) (by omega) (by omega) rfl ?_
  refine jT_fR [0, 1, 2, 3, 4, 5, 6, 7, 8, 9, 10, 11, 12, 13, 14, 15] 16 (y := 190) (pcN := 8) (dC := 1) (bc1 := 0) (bc2 := 0) (c1 := 0) (c2 := 0) (as := [(4, 0), (0, 1)]) (asC := [(4, 0), (0, 1)]) (LN := [(0, (4, 0)), (1, (0, 1)), (2, (0, 0))]) (stN := []) (hsC := jpA_22) (v := (0, 0)) (st2 := [(0, 0)]) (jA_190_39 (d := 0)) (by rfl) (by rfl) (by decide +kernel) (by rfl) (by rfl) (by omega) (by omega) (by omega) (by omega) rfl ?_
  refine jT_advK 5 (pcN := 15) (LN := [(0, (4, 0)), (1, (0, 1)), (2, (0, 0))]) (stN := [(0, 0), (0, 1), (4, 0), (4, 0)]) (hsN := jpA_1840) (c1 := 0) (s1 := 0) (c2 := 0) (s2 := 0) (by decide +kernel) ?_ (by omega) (by omega)
  refine jT_fR [0, 1, 2, 3, 4, 5, 6, 7, 8, 9, 10, 11, 12, 13, 14, 15] 16 (y := 247) (pcN := 18) (dC := 1) (bc1 := 0) (bc2 := 0) (c1 := 0) (c2 := 0) (as := [(4, 0), (0, 1), (0, 0)]) (asC := [(4, 0), (0, 1), (0, 0)]) (LN := [(0, (4, 0)), (1, (0, 1)), (2, (0, 0))]) (stN := [(4, 0)]) (hsC := jpA_1519) (v := (0, 1)) (st2 := [(0, 1), (4, 0)]) (jA_247_464 (d := 0)) (by rfl) (by rfl) (by decide +kernel) (by rfl) (by rfl) (by omega) (by omega) (by omega) (by omega) rfl ?_
  refine jT_advK 1 (pcN := 19) (LN := [(0, (4, 0)), (1, (0, 1)), (2, (0, 0))]) (stN := [(0, 1), (0, 1), (4, 0)]) (hsN := jpA_1840) (c1 := 0) (s1 := 0) (c2 := 0) (s2 := 0) (by decide +kernel) ?_ (by omega) (by omega)
  refine jT_fR [0] 16 (y := 191) (pcN := 22) (dC := 0) (bc1 := 0) (bc2 := 0) (c1 := 0) (c2 := 0) (as := [(4, 0), (0, 1), (0, 1)]) (asC := [(4, 0), (0, 1), (0, 1)]) (LN := [(0, (4, 0)), (1, (0, 1)), (2, (0, 0))]) (stN := []) (hsC := [jgh]) (v := (0, 0)) (st2 := [(0, 0)]) (jA_191_38 (d := 0)) (by rfl) (by rfl) (by decide +kernel) (by rfl) (by rfl) (by omega) (by omega) (by omega) (by omega) rfl ?_
  refine jT_advK 3 (pcN := 29) (LN := [(0, (4, 0)), (1, (0, 1)), (2, (0, 0))]) (stN := [(0, 1), (4, 0)]) (hsN := jpA_1840) (c1 := 0) (s1 := 0) (c2 := 0) (s2 := 0) (by decide +kernel) ?_ (by omega) (by omega)
  refine jT_fB [0, 1, 2, 3, 4, 5, 6, 7, 8, 9, 10, 11, 12, 13, 14, 15] 16 (y := 282) (pcN := 32) (dC := 5) (bc1 := 0) (bc2 := 0) (c1 := 0) (c2 := 0) (as := [(4, 0), (0, 1)]) (asC := [(4, 0), (0, 1)]) (LN := [(0, (4, 0)), (1, (0, 1)), (2, (0, 0))]) (stN := []) (hsC := jpA_1840) (hsD := jpA_3766) (v := (9, 0)) (st2 := []) (hs2 := jpA_3766) (jA_282_1023 (d := 0)) (by rfl) (by rfl) (by decide +kernel) (by rfl) (by rfl) (by omega) (by omega) (by omega) (by omega) rfl (by decide +kernel) ?_
  refine jT_advK 3 (pcN := 35) (LN := [(0, (4, 0)), (1, (0, 1)), (2, (0, 0))]) (stN := [(0, 0), (0, 1), (4, 0)]) (hsN := jpA_3766) (c1 := 0) (s1 := 0) (c2 := 0) (s2 := 0) (by decide +kernel) ?_ (by omega) (by omega)
  refine jT_fR [0, 1, 2, 3, 4, 5, 6, 7, 8, 9, 10, 11, 12, 13, 14, 15] 16 (y := 284) (pcN := 38) (dC := 5) (bc1 := 0) (bc2 := 0) (c1 := 0) (c2 := 0) (as := [(4, 0), (0, 1), (0, 0)]) (asC := [(4, 0), (0, 1), (0, 0)]) (LN := [(0, (4, 0)), (1, (0, 1)), (2, (0, 0))]) (stN := []) (hsC := jpA_3766) (v := (0, 0)) (st2 := [(0, 0)]) (jA_284_1062 (d := 0)) (by rfl) (by rfl) (by decide +kernel) (by rfl) (by rfl) (by omega) (by omega) (by omega) (by omega) rfl ?_
  exact jT_ret rfl (by decide) (by show 16 ≤ 16; decide) (by omega) (by omega) ⟨rfl, rfl, rfl⟩
theorem jA_152_1064 {xs : List Int} {d : Nat} {x2 : Int} (h_x2 : 1 ≤ x2 ∧ x2 ≤ 2147483647) : jT xs (d + 1) 152 23 0 [(0, (4, 0)), (1, (0, 1)), (2, (0, x2))] [] jpA_1845 1 6 (fun k v hsN => k = 1 ∧ v = (0, 0) ∧ hsN = jpA_1845 ++ []) := by
  refine jT_xaload_n (v := (4, 0)) (pcN := 1) jI_152_0 rfl rfl rfl ?_
  refine jT_xiload_n (v := (0, 1)) (pcN := 2) jI_152_1 rfl rfl rfl ?_
  refine jT_xiconst (k := 4) (pcN := 3) jI_152_2 rfl ?_
  refine jT_fR [0] 23 (y := 115) (pcN := 6) (dC := 0) (bc1 := 0) (bc2 := 0) (c1 := 1) (c2 := 6) (as := [(4, 0), (0, 1), (0, 4)]) (asC := [(4, 0), (0, 1), (0, 4)]) (LN := [(0, (4, 0)), (1, (0, 1)), (2, (0, x2))]) (stN := []) (hsC := [jgh]) (v := (9, 0)) (st2 := []) (jA_115_356 (d := 0)) (by rfl) (by rfl) (by decide +kernel) (by rfl) (by rfl) (by omega) (by omega) (by omega) (by omega) rfl ?_
  refine jT_xaload_n (v := (4, 0)) (pcN := 7) jI_152_6 rfl rfl rfl ?_
  refine jT_xgetf (a := 0) (t := 1) (ci := 13) (fi := 11) (c := jzA_5) (v := (4, 11)) (pcN := 10) jI_152_7 rfl rfl rfl rfl rfl rfl rfl ?_
  refine jT_xiload_n (v := (0, 1)) (pcN := 11) jI_152_10 rfl rfl rfl ?_
  refine jT_fR [11, 12, 13, 14, 15, 16, 17, 18, 19, 20] 23 (y := 56) (pcN := 14) (dC := 0) (bc1 := 0) (bc2 := 0) (c1 := 1) (c2 := 6) (as := [(4, 11), (0, 1)]) (asC := [(4, 0), (0, 1)]) (LN := [(0, (4, 0)), (1, (0, 1)), (2, (0, x2))]) (stN := []) (hsC := jpA_1446) (v := (4, 7)) (st2 := [(4, 18)]) (jA_56_357 (d := 0)) (by rfl) (by rfl) (by decide +kernel) (by rfl) (by rfl) (by omega) (by omega) (by omega) (by omega) rfl ?_
  refine jT_xastore_n (v := (4, 18)) (LN := [(3, (4, 18)), (0, (4, 0)), (1, (0, 1)), (2, (0, x2))]) (pcN := 15) jI_152_14 rfl rfl rfl rfl ?_
  refine jT_xaload_n (v := (4, 0)) (pcN := 16) jI_152_15 rfl rfl rfl ?_
  refine jT_xiload_n (v := (0, x2)) (pcN := 17) jI_152_16 rfl rfl rfl ?_
  refine jT_xaload_n (v := (4, 18)) (pcN := 18) jI_152_17 rfl rfl rfl ?_
  refine jT_fR [18, 21, 22] 23 (y := 29) (pcN := 21) (dC := 0) (bc1 := 0) (bc2 := 0) (c1 := 1) (c2 := 6) (as := [(4, 18)]) (asC := [(4, 0)]) (LN := [(3, (4, 18)), (0, (4, 0)), (1, (0, 1)), (2, (0, x2))]) (stN := [(0, x2), (4, 0)]) (hsC := [(7, [(4, 1), (4, (-1)), (4, (-1))], []), (114, [], [2]), jgh]) (v := (0, 1)) (st2 := [(0, 1), (0, x2), (4, 0)]) (jA_29_416 (d := 0)) (by rfl) (by rfl) (by decide +kernel) (by rfl) (by rfl) (by omega) (by omega) (by omega) (by omega) rfl ?_
  exact jT_fX [0] 23 (y := 115) (pcN := 24) (dC := 0) (bc1 := 1) (bc2 := 6) (as := [(4, 0), (0, x2), (0, 1)]) (asC := [(4, 0), (0, x2), (0, 1)]) (LN := [(3, (4, 18)), (0, (4, 0)), (1, (0, 1)), (2, (0, x2))]) (stN := []) (hsC := [jgh]) (e := 0) (jA_115_453 (d := 0) (by omega)) (by rfl) (by rfl) (by decide +kernel) (by rfl) (by rfl) (by omega) (by omega) (by omega) (by omega) ⟨rfl, ⟨rfl, rfl, rfl⟩⟩
theorem jA_356_1065 {xs : List Int} {d : Nat} {x2 : Int} (h_x2 : 1 ≤ x2 ∧ x2 ≤ 2147483647) : jT xs (d + 2) 356 24 0 [(0, (4, 0)), (1, (0, 1)), (2, (0, x2)), (3, (4, 1))] [] jpA_1846 1 6 (fun k v hsN => k = 0 ∧ v = (0, 1) ∧ hsN = jpA_1846 ++ []) := by
  refine jT_xaload_n (v := (4, 1)) (pcN := 1) jI_356_0 rfl rfl rfl ?_
  refine jT_xiconst (k := 0) (pcN := 2) jI_356_1 rfl ?_
  refine jT_xaload_n (v := (4, 0)) (pcN := 3) jI_356_2 rfl rfl rfl ?_
  refine jT_xiload_n (v := (0, 1)) (pcN := 4) jI_356_3 rfl rfl rfl ?_
  refine jT_xiload_n (v := (0, x2)) (pcN := 5) jI_356_4 rfl rfl rfl ?_
  exact jT_fX [0, 2, 3, 4, 5, 6, 7, 8, 9, 10, 11, 12, 13, 14, 15, 16, 17, 18, 19, 20, 21, 22, 23] 24 (y := 152) (pcN := 8) (dC := 1) (bc1 := 1) (bc2 := 6) (as := [(4, 0), (0, 1), (0, x2)]) (asC := [(4, 0), (0, 1), (0, x2)]) (LN := [(0, (4, 0)), (1, (0, 1)), (2, (0, x2)), (3, (4, 1))]) (stN := [(0, 0), (4, 1)]) (hsC := jpA_1845) (e := 0) (jA_152_1064 (d := 0) (by omega)) (by rfl) (by rfl) (by decide +kernel) (by rfl) (by rfl) (by omega) (by omega) (by omega) (by omega) (show _ from ⟨rfl, rfl, rfl⟩)
theorem jA_283_1066 {xs : List Int} {d : Nat} {x2 : Int} (h_x2 : 1 ≤ x2 ∧ x2 ≤ 2147483647) : jT xs (d + 2) 283 16 0 [(0, (4, 0)), (1, (0, 1)), (2, (0, x2))] [] jpA_1519 0 0 (fun k v hsN => k = 0 ∧ v = (0, 0) ∧ hsN = jpA_1820) := by
  refine jT_xaload_n (v := (4, 0)) (pcN := 1) jI_283_0 rfl rfl rfl ?_
  refine jT_xiload_n (v := (0, 1)) (pcN := 2) jI_283_1 rfl rfl rfl ?_
  refine jT_fR [] 16 (y := 238) (pcN := 5) (dC := 1) (bc1 := 0) (bc2 := 0) (c1 := 0) (c2 := 0) (as := [(0, 1)]) (asC := [(0, 1)]) (LN := [(0, (4, 0)), (1, (0, 1)), (2, (0, x2))]) (stN := [(4, 0)]) (hsC := []) (v := (0, 1)) (st2 := [(0, 1), (4, 0)]) (jA_238_362 (d := 0)) (by rfl) (by rfl) (by decide +kernel) (by rfl) (by rfl) (by omega) (by omega) (by omega) (by omega) rfl ?_
  refine jT_fR [0, 1, 2, 3, 4, 5, 6, 7, 8, 9, 10, 11, 12, 13, 14, 15] 16 (y := 190) (pcN := 8) (dC := 1) (bc1 := 0) (bc2 := 0) (c1 := 0) (c2 := 0) (as := [(4, 0), (0, 1)]) (asC := [(4, 0), (0, 1)]) (LN := [(0, (4, 0)), (1, (0, 1)), (2, (0, x2))]) (stN := []) (hsC := jpA_22) (v := (0, 0)) (st2 := [(0, 0)]) (jA_190_39 (d := 0)) (by rfl) (by rfl) (by decide +kernel) (by rfl) (by rfl) (by omega) (by omega) (by omega) (by omega) rfl ?_
  refine jT_xifF (t := 25) (pcN := 11) jI_283_8 rfl (by decide +kernel) rfl rfl ?_
  refine jT_xaload_n (v := (4, 0)) (pcN := 12) jI_283_11 rfl rfl rfl ?_
  refine jT_xaload_n (v := (4, 0)) (pcN := 13) jI_283_12 rfl rfl rfl ?_
  refine jT_xiload_n (v := (0, 1)) (pcN := 14) jI_283_13 rfl rfl rfl ?_
  refine jT_xiload_n (v := (0, x2)) (pcN := 15) jI_283_14 rfl rfl rfl ?_
  refine jT_fR [0, 1, 2, 3, 4, 5, 6, 7, 8, 9, 10, 11, 12, 13, 14, 15] 16 (y := 247) (pcN := 18) (dC := 1) (bc1 := 0) (bc2 := 0) (c1 := 0) (c2 := 0) (as := [(4, 0), (0, 1), (0, x2)]) (asC := [(4, 0), (0, 1), (0, x2)]) (LN := [(0, (4, 0)), (1, (0, 1)), (2, (0, x2))]) (stN := [(4, 0)]) (hsC := jpA_1519) (v := (0, 0)) (st2 := [(0, 0), (4, 0)]) (jA_247_470 (d := 0) (by omega)) (by rfl) (by rfl) (by decide +kernel) (by rfl) (by rfl) (by omega) (by omega) (by omega) (by omega) rfl ?_
  refine jT_xiconst (k := 1) (pcN := 19) jI_283_18 rfl ?_
  refine jT_fB [0, 1, 2, 3, 4, 5, 6, 7, 8, 9, 10, 11, 12, 13, 14, 15] 16 (y := 191) (pcN := 22) (dC := 0) (bc1 := 0) (bc2 := 0) (c1 := 0) (c2 := 0) (as := [(4, 0), (0, 0), (0, 1)]) (asC := [(4, 0), (0, 0), (0, 1)]) (LN := [(0, (4, 0)), (1, (0, 1)), (2, (0, x2))]) (stN := []) (hsC := jpA_22) (hsD := jpA_20) (v := (0, 1)) (st2 := [(0, 1)]) (hs2 := jpA_1820) (jA_191_5 (d := 0)) (by rfl) (by rfl) (by decide +kernel) (by rfl) (by rfl) (by omega) (by omega) (by omega) (by omega) rfl (by decide +kernel) ?_
  refine jT_xifF (t := 27) (pcN := 25) jI_283_22 rfl (by decide +kernel) rfl rfl ?_
  refine jT_xiconst (k := 0) (pcN := 26) jI_283_25 rfl ?_
  exact jT_ret rfl (by decide) (by show 16 ≤ 16; decide) (by omega) (by omega) ⟨rfl, rfl, rfl⟩
theorem jA_152_1067 {xs : List Int} {d : Nat} {x2 : Int} (h_x2 : (-2147483648) ≤ x2 ∧ x2 ≤ (-1)) : jT xs (d + 1) 152 23 0 [(0, (4, 0)), (1, (0, 2)), (2, (0, x2))] [] jpA_1858 1 6 (fun k v hsN => k = 1 ∧ v = (0, 0) ∧ hsN = jpA_1858 ++ []) := by
  refine jT_xaload_n (v := (4, 0)) (pcN := 1) jI_152_0 rfl rfl rfl ?_
  refine jT_xiload_n (v := (0, 2)) (pcN := 2) jI_152_1 rfl rfl rfl ?_
  refine jT_xiconst (k := 4) (pcN := 3) jI_152_2 rfl ?_
  refine jT_fR [0] 23 (y := 115) (pcN := 6) (dC := 0) (bc1 := 0) (bc2 := 0) (c1 := 1) (c2 := 6) (as := [(4, 0), (0, 2), (0, 4)]) (asC := [(4, 0), (0, 2), (0, 4)]) (LN := [(0, (4, 0)), (1, (0, 2)), (2, (0, x2))]) (stN := []) (hsC := [jgh]) (v := (9, 0)) (st2 := []) (jA_115_372 (d := 0)) (by rfl) (by rfl) (by decide +kernel) (by rfl) (by rfl) (by omega) (by omega) (by omega) (by omega) rfl ?_
  refine jT_xaload_n (v := (4, 0)) (pcN := 7) jI_152_6 rfl rfl rfl ?_
  refine jT_xgetf (a := 0) (t := 1) (ci := 13) (fi := 11) (c := jzA_5) (v := (4, 11)) (pcN := 10) jI_152_7 rfl rfl rfl rfl rfl rfl rfl ?_
  refine jT_xiload_n (v := (0, 2)) (pcN := 11) jI_152_10 rfl rfl rfl ?_
  refine jT_fR [11, 12, 13, 14, 15, 16, 17, 18, 19, 20] 23 (y := 56) (pcN := 14) (dC := 0) (bc1 := 0) (bc2 := 0) (c1 := 1) (c2 := 6) (as := [(4, 11), (0, 2)]) (asC := [(4, 0), (0, 2)]) (LN := [(0, (4, 0)), (1, (0, 2)), (2, (0, x2))]) (stN := []) (hsC := jpA_1446) (v := (4, 8)) (st2 := [(4, 19)]) (jA_56_373 (d := 0)) (by rfl) (by rfl) (by decide +kernel) (by rfl) (by rfl) (by omega) (by omega) (by omega) (by omega) rfl ?_
  refine jT_xastore_n (v := (4, 19)) (LN := [(3, (4, 19)), (0, (4, 0)), (1, (0, 2)), (2, (0, x2))]) (pcN := 15) jI_152_14 rfl rfl rfl rfl ?_
  refine jT_xaload_n (v := (4, 0)) (pcN := 16) jI_152_15 rfl rfl rfl ?_
  refine jT_xiload_n (v := (0, x2)) (pcN := 17) jI_152_16 rfl rfl rfl ?_
  refine jT_xaload_n (v := (4, 19)) (pcN := 18) jI_152_17 rfl rfl rfl ?_
  refine jT_fR [19, 21, 22] 23 (y := 29) (pcN := 21) (dC := 0) (bc1 := 0) (bc2 := 0) (c1 := 1) (c2 := 6) (as := [(4, 19)]) (asC := [(4, 0)]) (LN := [(3, (4, 19)), (0, (4, 0)), (1, (0, 2)), (2, (0, x2))]) (stN := [(0, x2), (4, 0)]) (hsC := [(7, [(4, 1), (4, (-1)), (4, (-1))], []), (114, [], [2]), jgh]) (v := (0, 1)) (st2 := [(0, 1), (0, x2), (4, 0)]) (jA_29_416 (d := 0)) (by rfl) (by rfl) (by decide +kernel) (by rfl) (by rfl) (by omega) (by omega) (by omega) (by omega) rfl ?_
  exact jT_fX [0] 23 (y := 115) (pcN := 24) (dC := 0) (bc1 := 1) (bc2 := 6) (as := [(4, 0), (0, x2), (0, 1)]) (asC := [(4, 0), (0, x2), (0, 1)]) (LN := [(3, (4, 19)), (0, (4, 0)), (1, (0, 2)), (2, (0, x2))]) (stN := []) (hsC := [jgh]) (e := 0) (jA_115_438 (d := 0) (by omega)) (by rfl) (by rfl) (by decide +kernel) (by rfl) (by rfl) (by omega) (by omega) (by omega) (by omega) ⟨rfl, ⟨rfl, rfl, rfl⟩⟩
theorem jA_356_1068 {xs : List Int} {d : Nat} {x2 : Int} (h_x2 : (-2147483648) ≤ x2 ∧ x2 ≤ (-1)) : jT xs (d + 2) 356 24 0 [(0, (4, 0)), (1, (0, 2)), (2, (0, x2)), (3, (4, 1))] [] jpA_1859 1 6 (fun k v hsN => k = 0 ∧ v = (0, 1) ∧ hsN = jpA_1859 ++ []) := by
  refine jT_xaload_n (v := (4, 1)) (pcN := 1) jI_356_0 rfl rfl rfl ?_
  refine jT_xiconst (k := 0) (pcN := 2) jI_356_1 rfl ?_
  refine jT_xaload_n (v := (4, 0)) (pcN := 3) jI_356_2 rfl rfl rfl ?_
  refine jT_xiload_n (v := (0, 2)) (pcN := 4) jI_356_3 rfl rfl rfl ?_
  refine jT_xiload_n (v := (0, x2)) (pcN := 5) jI_356_4 rfl rfl rfl ?_
  exact jT_fX [0, 2, 3, 4, 5, 6, 7, 8, 9, 10, 11, 12, 13, 14, 15, 16, 17, 18, 19, 20, 21, 22, 23] 24 (y := 152) (pcN := 8) (dC := 1) (bc1 := 1) (bc2 := 6) (as := [(4, 0), (0, 2), (0, x2)]) (asC := [(4, 0), (0, 2), (0, x2)]) (LN := [(0, (4, 0)), (1, (0, 2)), (2, (0, x2)), (3, (4, 1))]) (stN := [(0, 0), (4, 1)]) (hsC := jpA_1858) (e := 0) (jA_152_1067 (d := 0) (by omega)) (by rfl) (by rfl) (by decide +kernel) (by rfl) (by rfl) (by omega) (by omega) (by omega) (by omega) (show _ from ⟨rfl, rfl, rfl⟩)
theorem jA_283_1069 {xs : List Int} {d : Nat} {x2 : Int} (h_x2 : (-2147483648) ≤ x2 ∧ x2 ≤ (-1)) : jT xs (d + 2) 283 16 0 [(0, (4, 0)), (1, (0, 2)), (2, (0, x2))] [] jpA_1519 0 0 (fun k v hsN => k = 0 ∧ v = (0, 0) ∧ hsN = jpA_1820) := by
  refine jT_xaload_n (v := (4, 0)) (pcN := 1) jI_283_0 rfl rfl rfl ?_
  refine jT_xiload_n (v := (0, 2)) (pcN := 2) jI_283_1 rfl rfl rfl ?_
  refine jT_fR [] 16 (y := 238) (pcN := 5) (dC := 1) (bc1 := 0) (bc2 := 0) (c1 := 0) (c2 := 0) (as := [(0, 2)]) (asC := [(0, 2)]) (LN := [(0, (4, 0)), (1, (0, 2)), (2, (0, x2))]) (stN := [(4, 0)]) (hsC := []) (v := (0, 1)) (st2 := [(0, 1), (4, 0)]) (jA_238_378 (d := 0)) (by rfl) (by rfl) (by decide +kernel) (by rfl) (by rfl) (by omega) (by omega) (by omega) (by omega) rfl ?_
  refine jT_fR [0, 1, 2, 3, 4, 5, 6, 7, 8, 9, 10, 11, 12, 13, 14, 15] 16 (y := 190) (pcN := 8) (dC := 1) (bc1 := 0) (bc2 := 0) (c1 := 0) (c2 := 0) (as := [(4, 0), (0, 1)]) (asC := [(4, 0), (0, 1)]) (LN := [(0, (4, 0)), (1, (0, 2)), (2, (0, x2))]) (stN := []) (hsC := jpA_22) (v := (0, 0)) (st2 := [(0, 0)]) (jA_190_39 (d := 0)) (by rfl) (by rfl) (by decide +kernel) (by rfl) (by rfl) (by omega) (by omega) (by omega) (by omega) rfl ?_
  refine jT_xifF (t := 25) (pcN := 11) jI_283_8 rfl (by decide +kernel) rfl rfl ?_
  refine jT_xaload_n (v := (4, 0)) (pcN := 12) jI_283_11 rfl rfl rfl ?_
  refine jT_xaload_n (v := (4, 0)) (pcN := 13) jI_283_12 rfl rfl rfl ?_
  refine jT_xiload_n (v := (0, 2)) (pcN := 14) jI_283_13 rfl rfl rfl ?_
  refine jT_xiload_n (v := (0, x2)) (pcN := 15) jI_283_14 rfl rfl rfl ?_
  refine jT_fR [0, 1, 2, 3, 4, 5, 6, 7, 8, 9, 10, 11, 12, 13, 14, 15] 16 (y := 247) (pcN := 18) (dC := 1) (bc1 := 0) (bc2 := 0) (c1 := 0) (c2 := 0) (as := [(4, 0), (0, 2), (0, x2)]) (asC := [(4, 0), (0, 2), (0, x2)]) (LN := [(0, (4, 0)), (1, (0, 2)), (2, (0, x2))]) (stN := [(4, 0)]) (hsC := jpA_1519) (v := (0, 0)) (st2 := [(0, 0), (4, 0)]) (jA_247_474 (d := 0) (by omega)) (by rfl) (by rfl) (by decide +kernel) (by rfl) (by rfl) (by omega) (by omega) (by omega) (by omega) rfl ?_
  refine jT_xiconst (k := 1) (pcN := 19) jI_283_18 rfl ?_
  refine jT_fB [0, 1, 2, 3, 4, 5, 6, 7, 8, 9, 10, 11, 12, 13, 14, 15] 16 (y := 191) (pcN := 22) (dC := 0) (bc1 := 0) (bc2 := 0) (c1 := 0) (c2 := 0) (as := [(4, 0), (0, 0), (0, 1)]) (asC := [(4, 0), (0, 0), (0, 1)]) (LN := [(0, (4, 0)), (1, (0, 2)), (2, (0, x2))]) (stN := []) (hsC := jpA_22) (hsD := jpA_20) (v := (0, 1)) (st2 := [(0, 1)]) (hs2 := jpA_1820) (jA_191_5 (d := 0)) (by rfl) (by rfl) (by decide +kernel) (by rfl) (by rfl) (by omega) (by omega) (by omega) (by omega) rfl (by decide +kernel) ?_
  refine jT_xifF (t := 27) (pcN := 25) jI_283_22 rfl (by decide +kernel) rfl rfl ?_
  refine jT_xiconst (k := 0) (pcN := 26) jI_283_25 rfl ?_
  exact jT_ret rfl (by decide) (by show 16 ≤ 16; decide) (by omega) (by omega) ⟨rfl, rfl, rfl⟩
theorem jA_152_1070 {xs : List Int} {d : Nat} : jT xs (d + 6) 152 26 0 [(0, (4, 0)), (1, (0, 2)), (2, (0, 0))] [] jpA_3773 7 19 (fun k v hsN => k = 0 ∧ v = (0, 0) ∧ hsN = jpA_3774) := by
  refine jT_advK 3 (pcN := 3) (LN := [(0, (4, 0)), (1, (0, 2)), (2, (0, 0))]) (stN := [(0, 4), (0, 2), (4, 0)]) (hsN := jpA_3773) (c1 := 0) (s1 := 0) (c2 := 7) (s2 := 19) (by decide +kernel) ?_ (by omega) (by omega)
  refine jT_fR [0] 26 (y := 115) (pcN := 6) (dC := 0) (bc1 := 0) (bc2 := 0) (c1 := 7) (c2 := 19) (as := [(4, 0), (0, 2), (0, 4)]) (asC := [(4, 0), (0, 2), (0, 4)]) (LN := [(0, (4, 0)), (1, (0, 2)), (2, (0, 0))]) (stN := []) (hsC := [jgh]) (v := (9, 0)) (st2 := []) (jA_115_372 (d := 0)) (by rfl) (by rfl) (by decide +kernel) (by rfl) (by rfl) (by omega) (by omega) (by omega) (by omega) rfl ?_
  refine jT_advK 3 (pcN := 11) (LN := [(0, (4, 0)), (1, (0, 2)), (2, (0, 0))]) (stN := [(0, 2), (4, 11)]) (hsN := jpA_3773) (c1 := 0) (s1 := 0) (c2 := 7) (s2 := 19) (by decide +kernel) ?_ (by omega) (by omega)
  refine jT_fR [11, 14, 15, 16, 17, 18, 19, 20, 21, 22] 26 (y := 56) (pcN := 14) (dC := 0) (bc1 := 0) (bc2 := 0) (c1 := 7) (c2 := 19) (as := [(4, 11), (0, 2)]) (asC := [(4, 0), (0, 2)]) (LN := [(0, (4, 0)), (1, (0, 2)), (2, (0, 0))]) (stN := []) (hsC := jpA_1446) (v := (4, 8)) (st2 := [(4, 21)]) (jA_56_373 (d := 0)) (by rfl) (by rfl) (by decide +kernel) (by rfl) (by rfl) (by omega) (by omega) (by omega) (by omega) rfl ?_
  refine jT_advK 4 (pcN := 18) (LN := [(3, (4, 21)), (0, (4, 0)), (1, (0, 2)), (2, (0, 0))]) (stN := [(4, 21), (0, 0), (4, 0)]) (hsN := jpA_3773) (c1 := 0) (s1 := 0) (c2 := 7) (s2 := 19) (by decide +kernel) ?_ (by omega) (by omega)
  refine jT_fR [21, 23, 24] 26 (y := 29) (pcN := 21) (dC := 0) (bc1 := 0) (bc2 := 0) (c1 := 7) (c2 := 19) (as := [(4, 21)]) (asC := [(4, 0)]) (LN := [(3, (4, 21)), (0, (4, 0)), (1, (0, 2)), (2, (0, 0))]) (stN := [(0, 0), (4, 0)]) (hsC := [(7, [(4, 1), (4, (-1)), (4, (-1))], []), (114, [], [2]), jgh]) (v := (0, 1)) (st2 := [(0, 1), (0, 0), (4, 0)]) (jA_29_416 (d := 0)) (by rfl) (by rfl) (by decide +kernel) (by rfl) (by rfl) (by omega) (by omega) (by omega) (by omega) rfl ?_
  refine jT_fR [0] 26 (y := 115) (pcN := 24) (dC := 0) (bc1 := 0) (bc2 := 0) (c1 := 7) (c2 := 19) (as := [(4, 0), (0, 0), (0, 1)]) (asC := [(4, 0), (0, 0), (0, 1)]) (LN := [(3, (4, 21)), (0, (4, 0)), (1, (0, 2)), (2, (0, 0))]) (stN := []) (hsC := [jgh]) (v := (9, 0)) (st2 := []) (jA_115_443 (d := 0)) (by rfl) (by rfl) (by decide +kernel) (by rfl) (by rfl) (by omega) (by omega) (by omega) (by omega) rfl ?_
  refine jT_advK 3 (pcN := 29) (LN := [(3, (4, 21)), (0, (4, 0)), (1, (0, 2)), (2, (0, 0))]) (stN := [(4, 1), (4, 21)]) (hsN := jpA_3773) (c1 := 0) (s1 := 0) (c2 := 7) (s2 := 19) (by decide +kernel) ?_ (by omega) (by omega)
  refine jT_fB [21, 1, 23, 12, 13, 24, 25] 26 (y := 36) (pcN := 32) (dC := 5) (bc1 := 7) (bc2 := 19) (c1 := 0) (c2 := 0) (as := [(4, 21), (4, 1)]) (asC := [(4, 0), (4, 1)]) (LN := [(3, (4, 21)), (0, (4, 0)), (1, (0, 2)), (2, (0, 0))]) (stN := []) (hsC := jpA_3741) (hsD := jpA_3740) (v := (4, 13)) (st2 := [(4, 32)]) (hs2 := jpA_3774) (jA_36_1012 (d := 0)) (by rfl) (by rfl) (by decide +kernel) (by rfl) (by rfl) (by omega) (by omega) (by omega) (by omega) rfl (by decide +kernel) ?_
  refine jT_advK 2 (pcN := 34) (LN := [(3, (4, 21)), (0, (4, 0)), (1, (0, 2)), (2, (0, 0))]) (stN := [(0, 0)]) (hsN := jpA_3774) (c1 := 0) (s1 := 0) (c2 := 0) (s2 := 0) (by decide +kernel) ?_ (by omega) (by omega)
  exact jT_ret rfl (by decide) (by show 26 ≤ 33; decide) (by omega) (by omega) ⟨rfl, rfl, rfl⟩
theorem jA_356_1071 {xs : List Int} {d : Nat} : jT xs (d + 7) 356 27 0 [(0, (4, 0)), (1, (0, 2)), (2, (0, 0)), (3, (4, 1))] [] jpA_3775 7 19 (fun k v hsN => k = 0 ∧ v = (0, 0) ∧ hsN = jpA_3776) := by
  refine jT_advK 5 (pcN := 5) (LN := [(0, (4, 0)), (1, (0, 2)), (2, (0, 0)), (3, (4, 1))]) (stN := [(0, 0), (0, 2), (4, 0), (0, 0), (4, 1)]) (hsN := jpA_3775) (c1 := 0) (s1 := 0) (c2 := 7) (s2 := 19) (by decide +kernel) ?_ (by omega) (by omega)
  refine jT_fB [0, 2, 3, 4, 5, 6, 7, 8, 9, 10, 11, 12, 13, 14, 15, 16, 17, 18, 19, 20, 21, 22, 23, 24, 25, 26] 27 (y := 152) (pcN := 8) (dC := 6) (bc1 := 7) (bc2 := 19) (c1 := 0) (c2 := 0) (as := [(4, 0), (0, 2), (0, 0)]) (asC := [(4, 0), (0, 2), (0, 0)]) (LN := [(0, (4, 0)), (1, (0, 2)), (2, (0, 0)), (3, (4, 1))]) (stN := [(0, 0), (4, 1)]) (hsC := jpA_3773) (hsD := jpA_3774) (v := (0, 0)) (st2 := [(0, 0), (0, 0), (4, 1)]) (hs2 := jpA_3776) (jA_152_1070 (d := 0)) (by rfl) (by rfl) (by decide +kernel) (by rfl) (by rfl) (by omega) (by omega) (by omega) (by omega) rfl (by decide +kernel) ?_
  refine jT_advK 4 (pcN := 18) (LN := [(0, (4, 0)), (1, (0, 2)), (2, (0, 0)), (3, (4, 1))]) (stN := [(0, 0)]) (hsN := jpA_3776) (c1 := 0) (s1 := 0) (c2 := 0) (s2 := 0) (by decide +kernel) ?_ (by omega) (by omega)
  exact jT_ret rfl (by decide) (by show 27 ≤ 34; decide) (by omega) (by omega) ⟨rfl, rfl, rfl⟩
theorem jA_203_1072 {xs : List Int} {d : Nat} : jT xs d 203 16 0 [(0, (4, 0)), (1, (4, 1)), (2, (0, 619))] [] jpA_3846 0 0 (fun k v hsN => k = 0 ∧ v = (9, 0) ∧ hsN = jpA_3847) := by
  refine jT_advK 12 (pcN := 17) (LN := [(3, (0, 0)), (0, (4, 0)), (1, (4, 1)), (2, (0, 619))]) (stN := [(0, 619), (4, 1), (0, 0), (4, 7)]) (hsN := jpA_3846) (c1 := 0) (s1 := 0) (c2 := 0) (s2 := 0) (by decide +kernel) ?_ (by omega) (by omega)
  refine jT_iald (x := 0) (a := 1) (j := 619) (fs := []) (X := jS0) (by rfl) (by rfl) (by rfl) (by rfl) (by decide +kernel) ?_
  refine jT_eq (LN := [(3, (0, 0)), (0, (4, 0)), (1, (4, 1)), (2, (0, 619))]) (stN := [(0, 0), (0, 0), (4, 7)]) (hsN := jpA_3846) rfl rfl rfl ?_
  refine jT_advK 14 (pcN := 17) (LN := [(3, (0, 1)), (0, (4, 0)), (1, (4, 1)), (2, (0, 619))]) (stN := [(0, 620), (4, 1), (0, 1), (4, 7)]) (hsN := jpA_3847) (c1 := 0) (s1 := 0) (c2 := 0) (s2 := 0) (by decide +kernel) ?_ (by omega) (by omega)
  refine jT_iald (x := 0) (a := 1) (j := 620) (fs := []) (X := jS0) (by rfl) (by rfl) (by rfl) (by rfl) (by decide +kernel) ?_
  refine jT_eq (LN := [(3, (0, 1)), (0, (4, 0)), (1, (4, 1)), (2, (0, 619))]) (stN := [(0, 0), (0, 1), (4, 7)]) (hsN := jpA_3847) rfl rfl rfl ?_
  refine jT_advK 14 (pcN := 17) (LN := [(3, (0, 2)), (0, (4, 0)), (1, (4, 1)), (2, (0, 619))]) (stN := [(0, 621), (4, 1), (0, 2), (4, 7)]) (hsN := jpA_3847) (c1 := 0) (s1 := 0) (c2 := 0) (s2 := 0) (by decide +kernel) ?_ (by omega) (by omega)
  refine jT_iald (x := 0) (a := 1) (j := 621) (fs := []) (X := jS0) (by rfl) (by rfl) (by rfl) (by rfl) (by decide +kernel) ?_
  refine jT_eq (LN := [(3, (0, 2)), (0, (4, 0)), (1, (4, 1)), (2, (0, 619))]) (stN := [(0, 0), (0, 2), (4, 7)]) (hsN := jpA_3847) rfl rfl rfl ?_
  refine jT_advK 14 (pcN := 17) (LN := [(3, (0, 3)), (0, (4, 0)), (1, (4, 1)), (2, (0, 619))]) (stN := [(0, 622), (4, 1), (0, 3), (4, 7)]) (hsN := jpA_3847) (c1 := 0) (s1 := 0) (c2 := 0) (s2 := 0) (by decide +kernel) ?_ (by omega) (by omega)
  refine jT_iald (x := 0) (a := 1) (j := 622) (fs := []) (X := jS0) (by rfl) (by rfl) (by rfl) (by rfl) (by decide +kernel) ?_
  refine jT_eq (LN := [(3, (0, 3)), (0, (4, 0)), (1, (4, 1)), (2, (0, 619))]) (stN := [(0, 0), (0, 3), (4, 7)]) (hsN := jpA_3847) rfl rfl rfl ?_
  refine jT_advK 14 (pcN := 17) (LN := [(3, (0, 4)), (0, (4, 0)), (1, (4, 1)), (2, (0, 619))]) (stN := [(0, 623), (4, 1), (0, 4), (4, 7)]) (hsN := jpA_3847) (c1 := 0) (s1 := 0) (c2 := 0) (s2 := 0) (by decide +kernel) ?_ (by omega) (by omega)
  refine jT_iald (x := 0) (a := 1) (j := 623) (fs := []) (X := jS0) (by rfl) (by rfl) (by rfl) (by rfl) (by decide +kernel) ?_
  refine jT_eq (LN := [(3, (0, 4)), (0, (4, 0)), (1, (4, 1)), (2, (0, 619))]) (stN := [(0, 0), (0, 4), (4, 7)]) (hsN := jpA_3847) rfl rfl rfl ?_
  refine jT_advK 14 (pcN := 17) (LN := [(3, (0, 5)), (0, (4, 0)), (1, (4, 1)), (2, (0, 619))]) (stN := [(0, 624), (4, 1), (0, 5), (4, 7)]) (hsN := jpA_3847) (c1 := 0) (s1 := 0) (c2 := 0) (s2 := 0) (by decide +kernel) ?_ (by omega) (by omega)
  refine jT_iald (x := 0) (a := 1) (j := 624) (fs := []) (X := jS0) (by rfl) (by rfl) (by rfl) (by rfl) (by decide +kernel) ?_
  refine jT_eq (LN := [(3, (0, 5)), (0, (4, 0)), (1, (4, 1)), (2, (0, 619))]) (stN := [(0, 0), (0, 5), (4, 7)]) (hsN := jpA_3847) rfl rfl rfl ?_
  refine jT_advK 12 (pcN := 32) (LN := [(3, (0, 6)), (0, (4, 0)), (1, (4, 1)), (2, (0, 619))]) (stN := [(0, 625), (4, 1), (4, 0)]) (hsN := jpA_3847) (c1 := 0) (s1 := 0) (c2 := 0) (s2 := 0) (by decide +kernel) ?_ (by omega) (by omega)
  refine jT_iald (x := 1) (a := 1) (j := 625) (fs := []) (X := jS0) (by rfl) (by rfl) (by rfl) (by rfl) (by decide +kernel) ?_
  refine jT_eq (LN := [(3, (0, 6)), (0, (4, 0)), (1, (4, 1)), (2, (0, 619))]) (stN := [(0, 1), (4, 0)]) (hsN := jpA_3847) rfl rfl rfl ?_
  refine jT_advK 2 (pcN := 37) (LN := [(3, (0, 6)), (0, (4, 0)), (1, (4, 1)), (2, (0, 619))]) (stN := []) (hsN := jpA_3847) (c1 := 0) (s1 := 0) (c2 := 0) (s2 := 0) (by decide +kernel) ?_ (by omega) (by omega)
  exact jT_ret rfl (by decide) (by show 16 ≤ 16; decide) (by omega) (by omega) ⟨rfl, rfl, rfl⟩
theorem jA_204_1073 {xs : List Int} {d : Nat} : jT xs (d + 3) 204 16 0 [(0, (4, 0)), (1, (4, 1)), (2, (0, 619)), (3, (1, (-1)))] [] jpA_3846 0 0 (fun k v hsN => k = 0 ∧ v = (9, 0) ∧ hsN = jpA_3846 ++ []) := by
  refine jT_advK 4 (pcN := 5) (LN := [(0, (4, 0)), (1, (4, 1)), (2, (0, 619)), (3, (1, (-1)))]) (stN := [(0, 625), (4, 1)]) (hsN := jpA_3846) (c1 := 0) (s1 := 0) (c2 := 0) (s2 := 0) (by decide +kernel) ?_ (by omega) (by omega)
  refine jT_iald (x := 1) (a := 1) (j := 625) (fs := []) (X := jS0) (by rfl) (by rfl) (by rfl) (by rfl) (by decide +kernel) ?_
  refine jT_eq (LN := [(0, (4, 0)), (1, (4, 1)), (2, (0, 619)), (3, (1, (-1)))]) (stN := [(0, 1)]) (hsN := jpA_3846) rfl rfl rfl ?_
  refine jT_advK 7 (pcN := 19) (LN := [(5, (1, 1)), (0, (4, 0)), (1, (4, 1)), (2, (0, 619)), (3, (1, (-1)))]) (stN := [(1, 1), (1, 1), (1, 1)]) (hsN := jpA_3846) (c1 := 0) (s1 := 0) (c2 := 0) (s2 := 0) (by decide +kernel) ?_ (by omega) (by omega)
  refine jT_fR [] 16 (y := 194) (pcN := 22) (dC := 1) (bc1 := 0) (bc2 := 0) (c1 := 0) (c2 := 0) (as := [(1, 1), (1, 1)]) (asC := [(1, 1), (1, 1)]) (LN := [(5, (1, 1)), (0, (4, 0)), (1, (4, 1)), (2, (0, 619)), (3, (1, (-1)))]) (stN := [(1, 1)]) (hsC := []) (v := (1, 1)) (st2 := [(1, 1), (1, 1)]) (jA_194_43 (d := 0)) (by rfl) (by rfl) (by decide +kernel) (by rfl) (by rfl) (by omega) (by omega) (by omega) (by omega) rfl ?_
  refine jT_advK 26 (pcN := 65) (LN := [(9, (0, 0)), (7, (1, 1)), (5, (1, 1)), (0, (4, 0)), (1, (4, 1)), (2, (0, 619)), (3, (1, (-1)))]) (stN := [(0, 619), (4, 1), (1, (-1)), (1, 1), (0, 0), (4, 7)]) (hsN := jpA_3846) (c1 := 0) (s1 := 0) (c2 := 0) (s2 := 0) (by decide +kernel) ?_ (by omega) (by omega)
  refine jT_iald (x := 0) (a := 1) (j := 619) (fs := []) (X := jS0) (by rfl) (by rfl) (by rfl) (by rfl) (by decide +kernel) ?_
  refine jT_eq (LN := [(9, (0, 0)), (7, (1, 1)), (5, (1, 1)), (0, (4, 0)), (1, (4, 1)), (2, (0, 619)), (3, (1, (-1)))]) (stN := [(0, 0), (1, (-1)), (1, 1), (0, 0), (4, 7)]) (hsN := jpA_3846) rfl rfl rfl ?_
  refine jT_advK 30 (pcN := 65) (LN := [(9, (0, 1)), (7, (1, 1)), (5, (1, 1)), (0, (4, 0)), (1, (4, 1)), (2, (0, 619)), (3, (1, (-1)))]) (stN := [(0, 620), (4, 1), (1, (-1)), (1, 0), (0, 1), (4, 7)]) (hsN := jpA_3846) (c1 := 0) (s1 := 0) (c2 := 0) (s2 := 0) (by decide +kernel) ?_ (by omega) (by omega)
  refine jT_iald (x := 0) (a := 1) (j := 620) (fs := []) (X := jS0) (by rfl) (by rfl) (by rfl) (by rfl) (by decide +kernel) ?_
  refine jT_eq (LN := [(9, (0, 1)), (7, (1, 1)), (5, (1, 1)), (0, (4, 0)), (1, (4, 1)), (2, (0, 619)), (3, (1, (-1)))]) (stN := [(0, 0), (1, (-1)), (1, 0), (0, 1), (4, 7)]) (hsN := jpA_3846) rfl rfl rfl ?_
  refine jT_advK 30 (pcN := 65) (LN := [(9, (0, 2)), (7, (1, 1)), (5, (1, 1)), (0, (4, 0)), (1, (4, 1)), (2, (0, 619)), (3, (1, (-1)))]) (stN := [(0, 621), (4, 1), (1, (-1)), (1, 0), (0, 2), (4, 7)]) (hsN := jpA_3846) (c1 := 0) (s1 := 0) (c2 := 0) (s2 := 0) (by decide +kernel) ?_ (by omega) (by omega)
  refine jT_iald (x := 0) (a := 1) (j := 621) (fs := []) (X := jS0) (by rfl) (by rfl) (by rfl) (by rfl) (by decide +kernel) ?_
  refine jT_eq (LN := [(9, (0, 2)), (7, (1, 1)), (5, (1, 1)), (0, (4, 0)), (1, (4, 1)), (2, (0, 619)), (3, (1, (-1)))]) (stN := [(0, 0), (1, (-1)), (1, 0), (0, 2), (4, 7)]) (hsN := jpA_3846) rfl rfl rfl ?_
  refine jT_advK 30 (pcN := 65) (LN := [(9, (0, 3)), (7, (1, 1)), (5, (1, 1)), (0, (4, 0)), (1, (4, 1)), (2, (0, 619)), (3, (1, (-1)))]) (stN := [(0, 622), (4, 1), (1, (-1)), (1, 0), (0, 3), (4, 7)]) (hsN := jpA_3846) (c1 := 0) (s1 := 0) (c2 := 0) (s2 := 0) (by decide +kernel) ?_ (by omega) (by omega)
  refine jT_iald (x := 0) (a := 1) (j := 622) (fs := []) (X := jS0) (by rfl) (by rfl) (by rfl) (by rfl) (by decide +kernel) ?_
  refine jT_eq (LN := [(9, (0, 3)), (7, (1, 1)), (5, (1, 1)), (0, (4, 0)), (1, (4, 1)), (2, (0, 619)), (3, (1, (-1)))]) (stN := [(0, 0), (1, (-1)), (1, 0), (0, 3), (4, 7)]) (hsN := jpA_3846) rfl rfl rfl ?_
  refine jT_advK 30 (pcN := 65) (LN := [(9, (0, 4)), (7, (1, 1)), (5, (1, 1)), (0, (4, 0)), (1, (4, 1)), (2, (0, 619)), (3, (1, (-1)))]) (stN := [(0, 623), (4, 1), (1, (-1)), (1, 0), (0, 4), (4, 7)]) (hsN := jpA_3846) (c1 := 0) (s1 := 0) (c2 := 0) (s2 := 0) (by decide +kernel) ?_ (by omega) (by omega)
  refine jT_iald (x := 0) (a := 1) (j := 623) (fs := []) (X := jS0) (by rfl) (by rfl) (by rfl) (by rfl) (by decide +kernel) ?_
  refine jT_eq (LN := [(9, (0, 4)), (7, (1, 1)), (5, (1, 1)), (0, (4, 0)), (1, (4, 1)), (2, (0, 619)), (3, (1, (-1)))]) (stN := [(0, 0), (1, (-1)), (1, 0), (0, 4), (4, 7)]) (hsN := jpA_3846) rfl rfl rfl ?_
  refine jT_advK 30 (pcN := 65) (LN := [(9, (0, 5)), (7, (1, 1)), (5, (1, 1)), (0, (4, 0)), (1, (4, 1)), (2, (0, 619)), (3, (1, (-1)))]) (stN := [(0, 624), (4, 1), (1, (-1)), (1, 0), (0, 5), (4, 7)]) (hsN := jpA_3846) (c1 := 0) (s1 := 0) (c2 := 0) (s2 := 0) (by decide +kernel) ?_ (by omega) (by omega)
  refine jT_iald (x := 0) (a := 1) (j := 624) (fs := []) (X := jS0) (by rfl) (by rfl) (by rfl) (by rfl) (by decide +kernel) ?_
  refine jT_eq (LN := [(9, (0, 5)), (7, (1, 1)), (5, (1, 1)), (0, (4, 0)), (1, (4, 1)), (2, (0, 619)), (3, (1, (-1)))]) (stN := [(0, 0), (1, (-1)), (1, 0), (0, 5), (4, 7)]) (hsN := jpA_3846) rfl rfl rfl ?_
  refine jT_advK 17 (pcN := 89) (LN := [(9, (0, 6)), (7, (1, 1)), (5, (1, 1)), (0, (4, 0)), (1, (4, 1)), (2, (0, 619)), (3, (1, (-1)))]) (stN := [(4, 0)]) (hsN := jpA_3846) (c1 := 0) (s1 := 0) (c2 := 0) (s2 := 0) (by decide +kernel) ?_ (by omega) (by omega)
  refine jT_fR [0, 1, 2, 3, 4, 5, 6, 7, 8, 9, 10, 11, 12, 13, 14, 15] 16 (y := 199) (pcN := 92) (dC := 2) (bc1 := 0) (bc2 := 0) (c1 := 0) (c2 := 0) (as := [(4, 0)]) (asC := [(4, 0)]) (LN := [(9, (0, 6)), (7, (1, 1)), (5, (1, 1)), (0, (4, 0)), (1, (4, 1)), (2, (0, 619)), (3, (1, (-1)))]) (stN := []) (hsC := jpA_3848) (v := (9, 0)) (st2 := []) (jA_199_1045 (d := 0)) (by rfl) (by rfl) (by decide +kernel) (by rfl) (by rfl) (by omega) (by omega) (by omega) (by omega) rfl ?_
  exact jT_ret rfl (by decide) (by show 16 ≤ 16; decide) (by omega) (by omega) ⟨rfl, rfl, rfl⟩
theorem jA_280_1074 {xs : List Int} {d : Nat} : jT xs (d + 4) 280 16 0 [(0, (4, 0)), (1, (0, 2)), (2, (0, 0))] [] jpA_3846 0 0 (fun k v hsN => k = 0 ∧ v = (9, 0) ∧ hsN = jpA_3846 ++ []) := by
  refine jT_advK 5 (pcN := 5) (LN := [(0, (4, 0)), (1, (0, 2)), (2, (0, 0))]) (stN := [(0, 2), (4, 0), (0, 1)]) (hsN := jpA_3846) (c1 := 0) (s1 := 0) (c2 := 0) (s2 := 0) (by decide +kernel) ?_ (by omega) (by omega)
  refine jT_fR [0, 1, 2, 3, 4, 5, 6, 7, 8, 9, 10, 11, 12, 13, 14, 15] 16 (y := 245) (pcN := 8) (dC := 0) (bc1 := 0) (bc2 := 0) (c1 := 0) (c2 := 0) (as := [(4, 0), (0, 2)]) (asC := [(4, 0), (0, 2)]) (LN := [(0, (4, 0)), (1, (0, 2)), (2, (0, 0))]) (stN := [(0, 1)]) (hsC := jpA_1545) (v := (0, 1)) (st2 := [(0, 1), (0, 1)]) (jA_245_384 (d := 0)) (by rfl) (by rfl) (by decide +kernel) (by rfl) (by rfl) (by omega) (by omega) (by omega) (by omega) rfl ?_
  refine jT_advK 7 (pcN := 17) (LN := [(3, (0, 0)), (0, (4, 0)), (1, (0, 2)), (2, (0, 0))]) (stN := [(0, 0), (0, 2), (4, 1), (4, 0)]) (hsN := jpA_3846) (c1 := 0) (s1 := 0) (c2 := 0) (s2 := 0) (by decide +kernel) ?_ (by omega) (by omega)
  refine jT_fR [] 16 (y := 242) (pcN := 20) (dC := 0) (bc1 := 0) (bc2 := 0) (c1 := 0) (c2 := 0) (as := [(0, 2), (0, 0)]) (asC := [(0, 2), (0, 0)]) (LN := [(3, (0, 0)), (0, (4, 0)), (1, (0, 2)), (2, (0, 0))]) (stN := [(4, 1), (4, 0)]) (hsC := []) (v := (0, 619)) (st2 := [(0, 619), (4, 1), (4, 0)]) (jA_242_380 (d := 0)) (by rfl) (by rfl) (by decide +kernel) (by rfl) (by rfl) (by omega) (by omega) (by omega) (by omega) rfl ?_
  refine jT_fB [0, 1, 2, 3, 4, 5, 6, 7, 8, 9, 10, 11, 12, 13, 14, 15] 16 (y := 203) (pcN := 23) (dC := 0) (bc1 := 0) (bc2 := 0) (c1 := 0) (c2 := 0) (as := [(4, 0), (4, 1), (0, 619)]) (asC := [(4, 0), (4, 1), (0, 619)]) (LN := [(3, (0, 0)), (0, (4, 0)), (1, (0, 2)), (2, (0, 0))]) (stN := []) (hsC := jpA_3846) (hsD := jpA_3847) (v := (9, 0)) (st2 := []) (hs2 := jpA_3847) (jA_203_1072 (d := 0)) (by rfl) (by rfl) (by decide +kernel) (by rfl) (by rfl) (by omega) (by omega) (by omega) (by omega) rfl (by decide +kernel) ?_
  refine jT_advK 16 (pcN := 47) (LN := [(3, (0, 0)), (0, (4, 0)), (1, (0, 2)), (2, (0, 0))]) (stN := [(0, 0), (0, 2), (4, 1), (4, 0)]) (hsN := jpA_3846) (c1 := 0) (s1 := 0) (c2 := 0) (s2 := 0) (by decide +kernel) ?_ (by omega) (by omega)
  refine jT_fR [] 16 (y := 242) (pcN := 50) (dC := 0) (bc1 := 0) (bc2 := 0) (c1 := 0) (c2 := 0) (as := [(0, 2), (0, 0)]) (asC := [(0, 2), (0, 0)]) (LN := [(3, (0, 0)), (0, (4, 0)), (1, (0, 2)), (2, (0, 0))]) (stN := [(4, 1), (4, 0)]) (hsC := []) (v := (0, 619)) (st2 := [(0, 619), (4, 1), (4, 0)]) (jA_242_380 (d := 0)) (by rfl) (by rfl) (by decide +kernel) (by rfl) (by rfl) (by omega) (by omega) (by omega) (by omega) rfl ?_
  refine jT_advK 1 (pcN := 53) (LN := [(3, (0, 0)), (0, (4, 0)), (1, (0, 2)), (2, (0, 0))]) (stN := [(1, (-1)), (0, 619), (4, 1), (4, 0)]) (hsN := jpA_3846) (c1 := 0) (s1 := 0) (c2 := 0) (s2 := 0) (by decide +kernel) ?_ (by omega) (by omega)
  refine jT_fR [0, 1, 2, 3, 4, 5, 6, 7, 8, 9, 10, 11, 12, 13, 14, 15] 16 (y := 204) (pcN := 56) (dC := 3) (bc1 := 0) (bc2 := 0) (c1 := 0) (c2 := 0) (as := [(4, 0), (4, 1), (0, 619), (1, (-1))]) (asC := [(4, 0), (4, 1), (0, 619), (1, (-1))]) (LN := [(3, (0, 0)), (0, (4, 0)), (1, (0, 2)), (2, (0, 0))]) (stN := []) (hsC := jpA_3846) (v := (9, 0)) (st2 := []) (jA_204_1073 (d := 0)) (by rfl) (by rfl) (by decide +kernel) (by rfl) (by rfl) (by omega) (by omega) (by omega) (by omega) rfl ?_
  exact jT_ret rfl (by decide) (by show 16 ≤ 16; decide) (by omega) (by omega) ⟨rfl, rfl, rfl⟩
theorem jA_284_1075 {xs : List Int} {d : Nat} : jT xs (d + 5) 284 16 0 [(0, (4, 0)), (1, (0, 2)), (2, (0, 0))] [] jpA_3766 0 0 (fun k v hsN => k = 0 ∧ v = (0, 0) ∧ hsN = jpA_3766 ++ []) := by
  refine jT_advK 3 (pcN := 3) (LN := [(0, (4, 0)), (1, (0, 2)), (2, (0, 0))]) (stN := [(0, 0), (0, 2), (4, 0)]) (hsN := jpA_3766) (c1 := 0) (s1 := 0) (c2 := 0) (s2 := 0) (by decide +kernel) ?_ (by omega) (by omega)
  refine jT_fR [0, 1, 2, 3, 4, 5, 6, 7, 8, 9, 10, 11, 12, 13, 14, 15] 16 (y := 280) (pcN := 6) (dC := 4) (bc1 := 0) (bc2 := 0) (c1 := 0) (c2 := 0) (as := [(4, 0), (0, 2), (0, 0)]) (asC := [(4, 0), (0, 2), (0, 0)]) (LN := [(0, (4, 0)), (1, (0, 2)), (2, (0, 0))]) (stN := []) (hsC := jpA_3846) (v := (9, 0)) (st2 := []) (jA_280_1074 (d := 0)) (by rfl) (by rfl) (by decide +kernel) (by rfl) (by rfl) (by omega) (by omega) (by omega) (by omega) rfl ?_
  refine jT_advK 8 (pcN := 17) (LN := [(3, (0, 0)), (0, (4, 0)), (1, (0, 2)), (2, (0, 0))]) (stN := [(0, 0), (4, 8), (4, 0)]) (hsN := jpA_3766) (c1 := 0) (s1 := 0) (c2 := 0) (s2 := 0) (by decide +kernel) ?_ (by omega) (by omega)
  refine jT_fR [0, 8, 1, 2, 3, 4, 5, 6, 7, 9, 10, 11, 12, 13, 14, 15] 16 (y := 236) (pcN := 20) (dC := 0) (bc1 := 0) (bc2 := 0) (c1 := 0) (c2 := 0) (as := [(4, 0), (4, 8), (0, 0)]) (asC := [(4, 0), (4, 1), (0, 0)]) (LN := [(3, (0, 0)), (0, (4, 0)), (1, (0, 2)), (2, (0, 0))]) (stN := []) (hsC := jpA_3849) (v := (0, 1)) (st2 := [(0, 1)]) (jA_236_1048 (d := 0)) (by rfl) (by rfl) (by decide +kernel) (by rfl) (by rfl) (by omega) (by omega) (by omega) (by omega) rfl ?_
  refine jT_advK 2 (pcN := 30) (LN := [(3, (0, 0)), (0, (4, 0)), (1, (0, 2)), (2, (0, 0))]) (stN := [(0, 0)]) (hsN := jpA_3766) (c1 := 0) (s1 := 0) (c2 := 0) (s2 := 0) (by decide +kernel) ?_ (by omega) (by omega)
  exact jT_ret rfl (by decide) (by show 16 ≤ 16; decide) (by omega) (by omega) ⟨rfl, rfl, rfl⟩
theorem jA_283_1076 {xs : List Int} {d : Nat} : jT xs (d + 6) 283 16 0 [(0, (4, 0)), (1, (0, 2)), (2, (0, 0))] [] jpA_1840 0 0 (fun k v hsN => k = 0 ∧ v = (0, 0) ∧ hsN = jpA_3766) := by
  refine jT_advK 2 (pcN := 2) (LN := [(0, (4, 0)), (1, (0, 2)), (2, (0, 0))]) (stN := [(0, 2), (4, 0)]) (hsN := jpA_1840) (c1 := 0) (s1 := 0) (c2 := 0) (s2 := 0) (by decide +kernel) ?_ (by omega) (by omega)
  refine jT_fR [] 16 (y := 238) (pcN := 5) (dC := 1) (bc1 := 0) (bc2 := 0) (c1 := 0) (c2 := 0) (as := [(0, 2)]) (asC := [(0, 2)]) (LN := [(0, (4, 0)), (1, (0, 2)), (2, (0, 0))]) (stN := [(4, 0)]) (hsC := []) (v := (0, 1)) (st2 := [(0, 1), (4, 0)]) (jA_238_378 (d := 0)) (by rfl) (by rfl) (by decide +kernel) (by rfl) (by rfl) (by omega) (by omega) (by omega) (by omega) rfl ?_
  refine jT_fR [0, 1, 2, 3, 4, 5, 6, 7, 8, 9, 10, 11, 12, 13, 14, 15] 16 (y := 190) (pcN := 8) (dC := 1) (bc1 := 0) (bc2 := 0) (c1 := 0) (c2 := 0) (as := [(4, 0), (0, 1)]) (asC := [(4, 0), (0, 1)]) (LN := [(0, (4, 0)), (1, (0, 2)), (2, (0, 0))]) (stN := []) (hsC := jpA_22) (v := (0, 0)) (st2 := [(0, 0)]) (jA_190_39 (d := 0)) (by rfl) (by rfl) (by decide +kernel) (by rfl) (by rfl) (by omega) (by omega) (by omega) (by omega) rfl ?_
  refine jT_advK 5 (pcN := 15) (LN := [(0, (4, 0)), (1, (0, 2)), (2, (0, 0))]) (stN := [(0, 0), (0, 2), (4, 0), (4, 0)]) (hsN := jpA_1840) (c1 := 0) (s1 := 0) (c2 := 0) (s2 := 0) (by decide +kernel) ?_ (by omega) (by omega)
  refine jT_fR [0, 1, 2, 3, 4, 5, 6, 7, 8, 9, 10, 11, 12, 13, 14, 15] 16 (y := 247) (pcN := 18) (dC := 1) (bc1 := 0) (bc2 := 0) (c1 := 0) (c2 := 0) (as := [(4, 0), (0, 2), (0, 0)]) (asC := [(4, 0), (0, 2), (0, 0)]) (LN := [(0, (4, 0)), (1, (0, 2)), (2, (0, 0))]) (stN := [(4, 0)]) (hsC := jpA_1519) (v := (0, 1)) (st2 := [(0, 1), (4, 0)]) (jA_247_478 (d := 0)) (by rfl) (by rfl) (by decide +kernel) (by rfl) (by rfl) (by omega) (by omega) (by omega) (by omega) rfl ?_
  refine jT_advK 1 (pcN := 19) (LN := [(0, (4, 0)), (1, (0, 2)), (2, (0, 0))]) (stN := [(0, 1), (0, 1), (4, 0)]) (hsN := jpA_1840) (c1 := 0) (s1 := 0) (c2 := 0) (s2 := 0) (by decide +kernel) ?_ (by omega) (by omega)
  refine jT_fR [0] 16 (y := 191) (pcN := 22) (dC := 0) (bc1 := 0) (bc2 := 0) (c1 := 0) (c2 := 0) (as := [(4, 0), (0, 1), (0, 1)]) (asC := [(4, 0), (0, 1), (0, 1)]) (LN := [(0, (4, 0)), (1, (0, 2)), (2, (0, 0))]) (stN := []) (hsC := [jgh]) (v := (0, 0)) (st2 := [(0, 0)]) (jA_191_38 (d := 0)) (by rfl) (by rfl) (by decide +kernel) (by rfl) (by rfl) (by omega) (by omega) (by omega) (by omega) rfl ?_
  refine jT_advK 3 (pcN := 29) (LN := [(0, (4, 0)), (1, (0, 2)), (2, (0, 0))]) (stN := [(0, 2), (4, 0)]) (hsN := jpA_1840) (c1 := 0) (s1 := 0) (c2 := 0) (s2 := 0) (by decide +kernel) ?_ (by omega) (by omega)
  refine jT_fB [0, 1, 2, 3, 4, 5, 6, 7, 8, 9, 10, 11, 12, 13, 14, 15] 16 (y := 282) (pcN := 32) (dC := 5) (bc1 := 0) (bc2 := 0) (c1 := 0) (c2 := 0) (as := [(4, 0), (0, 2)]) (asC := [(4, 0), (0, 2)]) (LN := [(0, (4, 0)), (1, (0, 2)), (2, (0, 0))]) (stN := []) (hsC := jpA_1840) (hsD := jpA_3766) (v := (9, 0)) (st2 := []) (hs2 := jpA_3766) (jA_282_1027 (d := 0)) (by rfl) (by rfl) (by decide +kernel) (by rfl) (by rfl) (by omega) (by omega) (by omega) (by omega) rfl (by decide +kernel) ?_
  refine jT_advK 3 (pcN := 35) (LN := [(0, (4, 0)), (1, (0, 2)), (2, (0, 0))]) (stN := [(0, 0), (0, 2), (4, 0)]) (hsN := jpA_3766) (c1 := 0) (s1 := 0) (c2 := 0) (s2 := 0) (by decide +kernel) ?_ (by omega) (by omega)
  refine jT_fR [0, 1, 2, 3, 4, 5, 6, 7, 8, 9, 10, 11, 12, 13, 14, 15] 16 (y := 284) (pcN := 38) (dC := 5) (bc1 := 0) (bc2 := 0) (c1 := 0) (c2 := 0) (as := [(4, 0), (0, 2), (0, 0)]) (asC := [(4, 0), (0, 2), (0, 0)]) (LN := [(0, (4, 0)), (1, (0, 2)), (2, (0, 0))]) (stN := []) (hsC := jpA_3766) (v := (0, 0)) (st2 := [(0, 0)]) (jA_284_1075 (d := 0)) (by rfl) (by rfl) (by decide +kernel) (by rfl) (by rfl) (by omega) (by omega) (by omega) (by omega) rfl ?_
  exact jT_ret rfl (by decide) (by show 16 ≤ 16; decide) (by omega) (by omega) ⟨rfl, rfl, rfl⟩
theorem jA_152_1077 {xs : List Int} {d : Nat} {x2 : Int} (h_x2 : 1 ≤ x2 ∧ x2 ≤ 2147483647) : jT xs (d + 1) 152 23 0 [(0, (4, 0)), (1, (0, 2)), (2, (0, x2))] [] jpA_1858 1 6 (fun k v hsN => k = 1 ∧ v = (0, 0) ∧ hsN = jpA_1858 ++ []) := by
  refine jT_xaload_n (v := (4, 0)) (pcN := 1) jI_152_0 rfl rfl rfl ?_
  refine jT_xiload_n (v := (0, 2)) (pcN := 2) jI_152_1 rfl rfl rfl ?_
  refine jT_xiconst (k := 4) (pcN := 3) jI_152_2 rfl ?_
  refine jT_fR [0] 23 (y := 115) (pcN := 6) (dC := 0) (bc1 := 0) (bc2 := 0) (c1 := 1) (c2 := 6) (as := [(4, 0), (0, 2), (0, 4)]) (asC := [(4, 0), (0, 2), (0, 4)]) (LN := [(0, (4, 0)), (1, (0, 2)), (2, (0, x2))]) (stN := []) (hsC := [jgh]) (v := (9, 0)) (st2 := []) (jA_115_372 (d := 0)) (by rfl) (by rfl) (by decide +kernel) (by rfl) (by rfl) (by omega) (by omega) (by omega) (by omega) rfl ?_
  refine jT_xaload_n (v := (4, 0)) (pcN := 7) jI_152_6 rfl rfl rfl ?_
  refine jT_xgetf (a := 0) (t := 1) (ci := 13) (fi := 11) (c := jzA_5) (v := (4, 11)) (pcN := 10) jI_152_7 rfl rfl rfl rfl rfl rfl rfl ?_
  refine jT_xiload_n (v := (0, 2)) (pcN := 11) jI_152_10 rfl rfl rfl ?_
  refine jT_fR [11, 12, 13, 14, 15, 16, 17, 18, 19, 20] 23 (y := 56) (pcN := 14) (dC := 0) (bc1 := 0) (bc2 := 0) (c1 := 1) (c2 := 6) (as := [(4, 11), (0, 2)]) (asC := [(4, 0), (0, 2)]) (LN := [(0, (4, 0)), (1, (0, 2)), (2, (0, x2))]) (stN := []) (hsC := jpA_1446) (v := (4, 8)) (st2 := [(4, 19)]) (jA_56_373 (d := 0)) (by rfl) (by rfl) (by decide +kernel) (by rfl) (by rfl) (by omega) (by omega) (by omega) (by omega) rfl ?_
  refine jT_xastore_n (v := (4, 19)) (LN := [(3, (4, 19)), (0, (4, 0)), (1, (0, 2)), (2, (0, x2))]) (pcN := 15) jI_152_14 rfl rfl rfl rfl ?_
  refine jT_xaload_n (v := (4, 0)) (pcN := 16) jI_152_15 rfl rfl rfl ?_
  refine jT_xiload_n (v := (0, x2)) (pcN := 17) jI_152_16 rfl rfl rfl ?_
  refine jT_xaload_n (v := (4, 19)) (pcN := 18) jI_152_17 rfl rfl rfl ?_
  refine jT_fR [19, 21, 22] 23 (y := 29) (pcN := 21) (dC := 0) (bc1 := 0) (bc2 := 0) (c1 := 1) (c2 := 6) (as := [(4, 19)]) (asC := [(4, 0)]) (LN := [(3, (4, 19)), (0, (4, 0)), (1, (0, 2)), (2, (0, x2))]) (stN := [(0, x2), (4, 0)]) (hsC := [(7, [(4, 1), (4, (-1)), (4, (-1))], []), (114, [], [2]), jgh]) (v := (0, 1)) (st2 := [(0, 1), (0, x2), (4, 0)]) (jA_29_416 (d := 0)) (by rfl) (by rfl) (by decide +kernel) (by rfl) (by rfl) (by omega) (by omega) (by omega) (by omega) rfl ?_
  exact jT_fX [0] 23 (y := 115) (pcN := 24) (dC := 0) (bc1 := 1) (bc2 := 6) (as := [(4, 0), (0, x2), (0, 1)]) (asC := [(4, 0), (0, x2), (0, 1)]) (LN := [(3, (4, 19)), (0, (4, 0)), (1, (0, 2)), (2, (0, x2))]) (stN := []) (hsC := [jgh]) (e := 0) (jA_115_453 (d := 0) (by omega)) (by rfl) (by rfl) (by decide +kernel) (by rfl) (by rfl) (by omega) (by omega) (by omega) (by omega) ⟨rfl, ⟨rfl, rfl, rfl⟩⟩
theorem jA_356_1078 {xs : List Int} {d : Nat} {x2 : Int} (h_x2 : 1 ≤ x2 ∧ x2 ≤ 2147483647) : jT xs (d + 2) 356 24 0 [(0, (4, 0)), (1, (0, 2)), (2, (0, x2)), (3, (4, 1))] [] jpA_1859 1 6 (fun k v hsN => k = 0 ∧ v = (0, 1) ∧ hsN = jpA_1859 ++ []) := by
  refine jT_xaload_n (v := (4, 1)) (pcN := 1) jI_356_0 rfl rfl rfl ?_
  refine jT_xiconst (k := 0) (pcN := 2) jI_356_1 rfl ?_
  refine jT_xaload_n (v := (4, 0)) (pcN := 3) jI_356_2 rfl rfl rfl ?_
  refine jT_xiload_n (v := (0, 2)) (pcN := 4) jI_356_3 rfl rfl rfl ?_
  refine jT_xiload_n (v := (0, x2)) (pcN := 5) jI_356_4 rfl rfl rfl ?_
  exact jT_fX [0, 2, 3, 4, 5, 6, 7, 8, 9, 10, 11, 12, 13, 14, 15, 16, 17, 18, 19, 20, 21, 22, 23] 24 (y := 152) (pcN := 8) (dC := 1) (bc1 := 1) (bc2 := 6) (as := [(4, 0), (0, 2), (0, x2)]) (asC := [(4, 0), (0, 2), (0, x2)]) (LN := [(0, (4, 0)), (1, (0, 2)), (2, (0, x2)), (3, (4, 1))]) (stN := [(0, 0), (4, 1)]) (hsC := jpA_1858) (e := 0) (jA_152_1077 (d := 0) (by omega)) (by rfl) (by rfl) (by decide +kernel) (by rfl) (by rfl) (by omega) (by omega) (by omega) (by omega) (show _ from ⟨rfl, rfl, rfl⟩)
theorem jA_283_1079 {xs : List Int} {d : Nat} {x2 : Int} (h_x2 : 1 ≤ x2 ∧ x2 ≤ 2147483647) : jT xs (d + 2) 283 16 0 [(0, (4, 0)), (1, (0, 2)), (2, (0, x2))] [] jpA_1519 0 0 (fun k v hsN => k = 0 ∧ v = (0, 0) ∧ hsN = jpA_1820) := by
  refine jT_xaload_n (v := (4, 0)) (pcN := 1) jI_283_0 rfl rfl rfl ?_
  refine jT_xiload_n (v := (0, 2)) (pcN := 2) jI_283_1 rfl rfl rfl ?_
  refine jT_fR [] 16 (y := 238) (pcN := 5) (dC := 1) (bc1 := 0) (bc2 := 0) (c1 := 0) (c2 := 0) (as := [(0, 2)]) (asC := [(0, 2)]) (LN := [(0, (4, 0)), (1, (0, 2)), (2, (0, x2))]) (stN := [(4, 0)]) (hsC := []) (v := (0, 1)) (st2 := [(0, 1), (4, 0)]) (jA_238_378 (d := 0)) (by rfl) (by rfl) (by decide +kernel) (by rfl) (by rfl) (by omega) (by omega) (by omega) (by omega) rfl ?_
  refine jT_fR [0, 1, 2, 3, 4, 5, 6, 7, 8, 9, 10, 11, 12, 13, 14, 15] 16 (y := 190) (pcN := 8) (dC := 1) (bc1 := 0) (bc2 := 0) (c1 := 0) (c2 := 0) (as := [(4, 0), (0, 1)]) (asC := [(4, 0), (0, 1)]) (LN := [(0, (4, 0)), (1, (0, 2)), (2, (0, x2))]) (stN := []) (hsC := jpA_22) (v := (0, 0)) (st2 := [(0, 0)]) (jA_190_39 (d := 0)) (by rfl) (by rfl) (by decide +kernel) (by rfl) (by rfl) (by omega) (by omega) (by omega) (by omega) rfl ?_
  refine jT_xifF (t := 25) (pcN := 11) jI_283_8 rfl (by decide +kernel) rfl rfl ?_
  refine jT_xaload_n (v := (4, 0)) (pcN := 12) jI_283_11 rfl rfl rfl ?_
  refine jT_xaload_n (v := (4, 0)) (pcN := 13) jI_283_12 rfl rfl rfl ?_
  refine jT_xiload_n (v := (0, 2)) (pcN := 14) jI_283_13 rfl rfl rfl ?_
  refine jT_xiload_n (v := (0, x2)) (pcN := 15) jI_283_14 rfl rfl rfl ?_
  refine jT_fR [0, 1, 2, 3, 4, 5, 6, 7, 8, 9, 10, 11, 12, 13, 14, 15] 16 (y := 247) (pcN := 18) (dC := 1) (bc1 := 0) (bc2 := 0) (c1 := 0) (c2 := 0) (as := [(4, 0), (0, 2), (0, x2)]) (asC := [(4, 0), (0, 2), (0, x2)]) (LN := [(0, (4, 0)), (1, (0, 2)), (2, (0, x2))]) (stN := [(4, 0)]) (hsC := jpA_1519) (v := (0, 0)) (st2 := [(0, 0), (4, 0)]) (jA_247_484 (d := 0) (by omega)) (by rfl) (by rfl) (by decide +kernel) (by rfl) (by rfl) (by omega) (by omega) (by omega) (by omega) rfl ?_
  refine jT_xiconst (k := 1) (pcN := 19) jI_283_18 rfl ?_
  refine jT_fB [0, 1, 2, 3, 4, 5, 6, 7, 8, 9, 10, 11, 12, 13, 14, 15] 16 (y := 191) (pcN := 22) (dC := 0) (bc1 := 0) (bc2 := 0) (c1 := 0) (c2 := 0) (as := [(4, 0), (0, 0), (0, 1)]) (asC := [(4, 0), (0, 0), (0, 1)]) (LN := [(0, (4, 0)), (1, (0, 2)), (2, (0, x2))]) (stN := []) (hsC := jpA_22) (hsD := jpA_20) (v := (0, 1)) (st2 := [(0, 1)]) (hs2 := jpA_1820) (jA_191_5 (d := 0)) (by rfl) (by rfl) (by decide +kernel) (by rfl) (by rfl) (by omega) (by omega) (by omega) (by omega) rfl (by decide +kernel) ?_
  refine jT_xifF (t := 27) (pcN := 25) jI_283_22 rfl (by decide +kernel) rfl rfl ?_
  refine jT_xiconst (k := 0) (pcN := 26) jI_283_25 rfl ?_
  exact jT_ret rfl (by decide) (by show 16 ≤ 16; decide) (by omega) (by omega) ⟨rfl, rfl, rfl⟩
theorem jA_152_1080 {xs : List Int} {d : Nat} {x2 : Int} (h_x2 : (-2147483648) ≤ x2 ∧ x2 ≤ (-1)) : jT xs (d + 1) 152 23 0 [(0, (4, 0)), (1, (0, 3)), (2, (0, x2))] [] jpA_1871 1 6 (fun k v hsN => k = 1 ∧ v = (0, 0) ∧ hsN = jpA_1871 ++ []) := by
  refine jT_xaload_n (v := (4, 0)) (pcN := 1) jI_152_0 rfl rfl rfl ?_
  refine jT_xiload_n (v := (0, 3)) (pcN := 2) jI_152_1 rfl rfl rfl ?_
  refine jT_xiconst (k := 4) (pcN := 3) jI_152_2 rfl ?_
  refine jT_fR [0] 23 (y := 115) (pcN := 6) (dC := 0) (bc1 := 0) (bc2 := 0) (c1 := 1) (c2 := 6) (as := [(4, 0), (0, 3), (0, 4)]) (asC := [(4, 0), (0, 3), (0, 4)]) (LN := [(0, (4, 0)), (1, (0, 3)), (2, (0, x2))]) (stN := []) (hsC := [jgh]) (v := (9, 0)) (st2 := []) (jA_115_387 (d := 0)) (by rfl) (by rfl) (by decide +kernel) (by rfl) (by rfl) (by omega) (by omega) (by omega) (by omega) rfl ?_
  refine jT_xaload_n (v := (4, 0)) (pcN := 7) jI_152_6 rfl rfl rfl ?_
  refine jT_xgetf (a := 0) (t := 1) (ci := 13) (fi := 11) (c := jzA_5) (v := (4, 11)) (pcN := 10) jI_152_7 rfl rfl rfl rfl rfl rfl rfl ?_
  refine jT_xiload_n (v := (0, 3)) (pcN := 11) jI_152_10 rfl rfl rfl ?_
  refine jT_fR [11, 12, 13, 14, 15, 16, 17, 18, 19, 20] 23 (y := 56) (pcN := 14) (dC := 0) (bc1 := 0) (bc2 := 0) (c1 := 1) (c2 := 6) (as := [(4, 11), (0, 3)]) (asC := [(4, 0), (0, 3)]) (LN := [(0, (4, 0)), (1, (0, 3)), (2, (0, x2))]) (stN := []) (hsC := jpA_1446) (v := (4, 9)) (st2 := [(4, 20)]) (jA_56_388 (d := 0)) (by rfl) (by rfl) (by decide +kernel) (by rfl) (by rfl) (by omega) (by omega) (by omega) (by omega) rfl ?_
  refine jT_xastore_n (v := (4, 20)) (LN := [(3, (4, 20)), (0, (4, 0)), (1, (0, 3)), (2, (0, x2))]) (pcN := 15) jI_152_14 rfl rfl rfl rfl ?_
  refine jT_xaload_n (v := (4, 0)) (pcN := 16) jI_152_15 rfl rfl rfl ?_
  refine jT_xiload_n (v := (0, x2)) (pcN := 17) jI_152_16 rfl rfl rfl ?_
  refine jT_xaload_n (v := (4, 20)) (pcN := 18) jI_152_17 rfl rfl rfl ?_
  refine jT_fR [20, 21, 22] 23 (y := 29) (pcN := 21) (dC := 0) (bc1 := 0) (bc2 := 0) (c1 := 1) (c2 := 6) (as := [(4, 20)]) (asC := [(4, 0)]) (LN := [(3, (4, 20)), (0, (4, 0)), (1, (0, 3)), (2, (0, x2))]) (stN := [(0, x2), (4, 0)]) (hsC := [(7, [(4, 1), (4, (-1)), (4, (-1))], []), (114, [], [2]), jgh]) (v := (0, 1)) (st2 := [(0, 1), (0, x2), (4, 0)]) (jA_29_416 (d := 0)) (by rfl) (by rfl) (by decide +kernel) (by rfl) (by rfl) (by omega) (by omega) (by omega) (by omega) rfl ?_
  exact jT_fX [0] 23 (y := 115) (pcN := 24) (dC := 0) (bc1 := 1) (bc2 := 6) (as := [(4, 0), (0, x2), (0, 1)]) (asC := [(4, 0), (0, x2), (0, 1)]) (LN := [(3, (4, 20)), (0, (4, 0)), (1, (0, 3)), (2, (0, x2))]) (stN := []) (hsC := [jgh]) (e := 0) (jA_115_438 (d := 0) (by omega)) (by rfl) (by rfl) (by decide +kernel) (by rfl) (by rfl) (by omega) (by omega) (by omega) (by omega) ⟨rfl, ⟨rfl, rfl, rfl⟩⟩
theorem jA_356_1081 {xs : List Int} {d : Nat} {x2 : Int} (h_x2 : (-2147483648) ≤ x2 ∧ x2 ≤ (-1)) : jT xs (d + 2) 356 24 0 [(0, (4, 0)), (1, (0, 3)), (2, (0, x2)), (3, (4, 1))] [] jpA_1872 1 6 (fun k v hsN => k = 0 ∧ v = (0, 1) ∧ hsN = jpA_1872 ++ []) := by
  refine jT_xaload_n (v := (4, 1)) (pcN := 1) jI_356_0 rfl rfl rfl ?_
  refine jT_xiconst (k := 0) (pcN := 2) jI_356_1 rfl ?_
  refine jT_xaload_n (v := (4, 0)) (pcN := 3) jI_356_2 rfl rfl rfl ?_
  refine jT_xiload_n (v := (0, 3)) (pcN := 4) jI_356_3 rfl rfl rfl ?_
  refine jT_xiload_n (v := (0, x2)) (pcN := 5) jI_356_4 rfl rfl rfl ?_
  exact jT_fX [0, 2, 3, 4, 5, 6, 7, 8, 9, 10, 11, 12, 13, 14, 15, 16, 17, 18, 19, 20, 21, 22, 23] 24 (y := 152) (pcN := 8) (dC := 1) (bc1 := 1) (bc2 := 6) (as := [(4, 0), (0, 3), (0, x2)]) (asC := [(4, 0), (0, 3), (0, x2)]) (LN := [(0, (4, 0)), (1, (0, 3)), (2, (0, x2)), (3, (4, 1))]) (stN := [(0, 0), (4, 1)]) (hsC := jpA_1871) (e := 0) (jA_152_1080 (d := 0) (by omega)) (by rfl) (by rfl) (by decide +kernel) (by rfl) (by rfl) (by omega) (by omega) (by omega) (by omega) (show _ from ⟨rfl, rfl, rfl⟩)
theorem jA_283_1082 {xs : List Int} {d : Nat} {x2 : Int} (h_x2 : (-2147483648) ≤ x2 ∧ x2 ≤ (-1)) : jT xs (d + 2) 283 16 0 [(0, (4, 0)), (1, (0, 3)), (2, (0, x2))] [] jpA_1519 0 0 (fun k v hsN => k = 0 ∧ v = (0, 0) ∧ hsN = jpA_1820) := by
  refine jT_xaload_n (v := (4, 0)) (pcN := 1) jI_283_0 rfl rfl rfl ?_
  refine jT_xiload_n (v := (0, 3)) (pcN := 2) jI_283_1 rfl rfl rfl ?_
  refine jT_fR [] 16 (y := 238) (pcN := 5) (dC := 1) (bc1 := 0) (bc2 := 0) (c1 := 0) (c2 := 0) (as := [(0, 3)]) (asC := [(0, 3)]) (LN := [(0, (4, 0)), (1, (0, 3)), (2, (0, x2))]) (stN := [(4, 0)]) (hsC := []) (v := (0, 1)) (st2 := [(0, 1), (4, 0)]) (jA_238_393 (d := 0)) (by rfl) (by rfl) (by decide +kernel) (by rfl) (by rfl) (by omega) (by omega) (by omega) (by omega) rfl ?_
  refine jT_fR [0, 1, 2, 3, 4, 5, 6, 7, 8, 9, 10, 11, 12, 13, 14, 15] 16 (y := 190) (pcN := 8) (dC := 1) (bc1 := 0) (bc2 := 0) (c1 := 0) (c2 := 0) (as := [(4, 0), (0, 1)]) (asC := [(4, 0), (0, 1)]) (LN := [(0, (4, 0)), (1, (0, 3)), (2, (0, x2))]) (stN := []) (hsC := jpA_22) (v := (0, 0)) (st2 := [(0, 0)]) (jA_190_39 (d := 0)) (by rfl) (by rfl) (by decide +kernel) (by rfl) (by rfl) (by omega) (by omega) (by omega) (by omega) rfl ?_
  refine jT_xifF (t := 25) (pcN := 11) jI_283_8 rfl (by decide +kernel) rfl rfl ?_
  refine jT_xaload_n (v := (4, 0)) (pcN := 12) jI_283_11 rfl rfl rfl ?_
  refine jT_xaload_n (v := (4, 0)) (pcN := 13) jI_283_12 rfl rfl rfl ?_
  refine jT_xiload_n (v := (0, 3)) (pcN := 14) jI_283_13 rfl rfl rfl ?_
  refine jT_xiload_n (v := (0, x2)) (pcN := 15) jI_283_14 rfl rfl rfl ?_
  refine jT_fR [0, 1, 2, 3, 4, 5, 6, 7, 8, 9, 10, 11, 12, 13, 14, 15] 16 (y := 247) (pcN := 18) (dC := 1) (bc1 := 0) (bc2 := 0) (c1 := 0) (c2 := 0) (as := [(4, 0), (0, 3), (0, x2)]) (asC := [(4, 0), (0, 3), (0, x2)]) (LN := [(0, (4, 0)), (1, (0, 3)), (2, (0, x2))]) (stN := [(4, 0)]) (hsC := jpA_1519) (v := (0, 0)) (st2 := [(0, 0), (4, 0)]) (jA_247_488 (d := 0) (by omega)) (by rfl) (by rfl) (by decide +kernel) (by rfl) (by rfl) (by omega) (by omega) (by omega) (by omega) rfl ?_
  refine jT_xiconst (k := 1) (pcN := 19) jI_283_18 rfl ?_
  refine jT_fB [0, 1, 2, 3, 4, 5, 6, 7, 8, 9, 10, 11, 12, 13, 14, 15] 16 (y := 191) (pcN := 22) (dC := 0) (bc1 := 0) (bc2 := 0) (c1 := 0) (c2 := 0) (as := [(4, 0), (0, 0), (0, 1)]) (asC := [(4, 0), (0, 0), (0, 1)]) (LN := [(0, (4, 0)), (1, (0, 3)), (2, (0, x2))]) (stN := []) (hsC := jpA_22) (hsD := jpA_20) (v := (0, 1)) (st2 := [(0, 1)]) (hs2 := jpA_1820) (jA_191_5 (d := 0)) (by rfl) (by rfl) (by decide +kernel) (by rfl) (by rfl) (by omega) (by omega) (by omega) (by omega) rfl (by decide +kernel) ?_
  refine jT_xifF (t := 27) (pcN := 25) jI_283_22 rfl (by decide +kernel) rfl rfl ?_
  refine jT_xiconst (k := 0) (pcN := 26) jI_283_25 rfl ?_
  exact jT_ret rfl (by decide) (by show 16 ≤ 16; decide) (by omega) (by omega) ⟨rfl, rfl, rfl⟩
theorem jA_152_1083 {xs : List Int} {d : Nat} : jT xs (d + 6) 152 26 0 [(0, (4, 0)), (1, (0, 3)), (2, (0, 0))] [] jpA_3778 7 19 (fun k v hsN => k = 0 ∧ v = (0, 0) ∧ hsN = jpA_3779) := by
  refine jT_advK 3 (pcN := 3) (LN := [(0, (4, 0)), (1, (0, 3)), (2, (0, 0))]) (stN := [(0, 4), (0, 3), (4, 0)]) (hsN := jpA_3778) (c1 := 0) (s1 := 0) (c2 := 7) (s2 := 19) (by decide +kernel) ?_ (by omega) (by omega)
  refine jT_fR [0] 26 (y := 115) (pcN := 6) (dC := 0) (bc1 := 0) (bc2 := 0) (c1 := 7) (c2 := 19) (as := [(4, 0), (0, 3), (0, 4)]) (asC := [(4, 0), (0, 3), (0, 4)]) (LN := [(0, (4, 0)), (1, (0, 3)), (2, (0, 0))]) (stN := []) (hsC := [jgh]) (v := (9, 0)) (st2 := []) (jA_115_387 (d := 0)) (by rfl) (by rfl) (by decide +kernel) (by rfl) (by rfl) (by omega) (by omega) (by omega) (by omega) rfl ?_
  refine jT_advK 3 (pcN := 11) (LN := [(0, (4, 0)), (1, (0, 3)), (2, (0, 0))]) (stN := [(0, 3), (4, 11)]) (hsN := jpA_3778) (c1 := 0) (s1 := 0) (c2 := 7) (s2 := 19) (by decide +kernel) ?_ (by omega) (by omega)
  refine jT_fR [11, 14, 15, 16, 17, 18, 19, 20, 21, 22] 26 (y := 56) (pcN := 14) (dC := 0) (bc1 := 0) (bc2 := 0) (c1 := 7) (c2 := 19) (as := [(4, 11), (0, 3)]) (asC := [(4, 0), (0, 3)]) (LN := [(0, (4, 0)), (1, (0, 3)), (2, (0, 0))]) (stN := []) (hsC := jpA_1446) (v := (4, 9)) (st2 := [(4, 22)]) (jA_56_388 (d := 0)) (by rfl) (by rfl) (by decide +kernel) (by rfl) (by rfl) (by omega) (by omega) (by omega) (by omega) rfl ?_
  refine jT_advK 4 (pcN := 18) (LN := [(3, (4, 22)), (0, (4, 0)), (1, (0, 3)), (2, (0, 0))]) (stN := [(4, 22), (0, 0), (4, 0)]) (hsN := jpA_3778) (c1 := 0) (s1 := 0) (c2 := 7) (s2 := 19) (by decide +kernel) ?_ (by omega) (by omega)
  refine jT_fR [22, 23, 24] 26 (y := 29) (pcN := 21) (dC := 0) (bc1 := 0) (bc2 := 0) (c1 := 7) (c2 := 19) (as := [(4, 22)]) (asC := [(4, 0)]) (LN := [(3, (4, 22)), (0, (4, 0)), (1, (0, 3)), (2, (0, 0))]) (stN := [(0, 0), (4, 0)]) (hsC := [(7, [(4, 1), (4, (-1)), (4, (-1))], []), (114, [], [2]), jgh]) (v := (0, 1)) (st2 := [(0, 1), (0, 0), (4, 0)]) (jA_29_416 (d := 0)) (by rfl) (by rfl) (by decide +kernel) (by rfl) (by rfl) (by omega) (by omega) (by omega) (by omega) rfl ?_
  refine jT_fR [0] 26 (y := 115) (pcN := 24) (dC := 0) (bc1 := 0) (bc2 := 0) (c1 := 7) (c2 := 19) (as := [(4, 0), (0, 0), (0, 1)]) (asC := [(4, 0), (0, 0), (0, 1)]) (LN := [(3, (4, 22)), (0, (4, 0)), (1, (0, 3)), (2, (0, 0))]) (stN := []) (hsC := [jgh]) (v := (9, 0)) (st2 := []) (jA_115_443 (d := 0)) (by rfl) (by rfl) (by decide +kernel) (by rfl) (by rfl) (by omega) (by omega) (by omega) (by omega) rfl ?_
  refine jT_advK 3 (pcN := 29) (LN := [(3, (4, 22)), (0, (4, 0)), (1, (0, 3)), (2, (0, 0))]) (stN := [(4, 1), (4, 22)]) (hsN := jpA_3778) (c1 := 0) (s1 := 0) (c2 := 7) (s2 := 19) (by decide +kernel) ?_ (by omega) (by omega)
  refine jT_fB [22, 1, 23, 12, 13, 24, 25] 26 (y := 36) (pcN := 32) (dC := 5) (bc1 := 7) (bc2 := 19) (c1 := 0) (c2 := 0) (as := [(4, 22), (4, 1)]) (asC := [(4, 0), (4, 1)]) (LN := [(3, (4, 22)), (0, (4, 0)), (1, (0, 3)), (2, (0, 0))]) (stN := []) (hsC := jpA_3741) (hsD := jpA_3740) (v := (4, 13)) (st2 := [(4, 32)]) (hs2 := jpA_3779) (jA_36_1012 (d := 0)) (by rfl) (by rfl) (by decide +kernel) (by rfl) (by rfl) (by omega) (by omega) (by omega) (by omega) rfl (by decide +kernel) ?_
  refine jT_advK 2 (pcN := 34) (LN := [(3, (4, 22)), (0, (4, 0)), (1, (0, 3)), (2, (0, 0))]) (stN := [(0, 0)]) (hsN := jpA_3779) (c1 := 0) (s1 := 0) (c2 := 0) (s2 := 0) (by decide +kernel) ?_ (by omega) (by omega)
  exact jT_ret rfl (by decide) (by show 26 ≤ 33; decide) (by omega) (by omega) ⟨rfl, rfl, rfl⟩
theorem jA_356_1084 {xs : List Int} {d : Nat} : jT xs (d + 7) 356 27 0 [(0, (4, 0)), (1, (0, 3)), (2, (0, 0)), (3, (4, 1))] [] jpA_3780 7 19 (fun k v hsN => k = 0 ∧ v = (0, 0) ∧ hsN = jpA_3781) := by
  refine jT_advK 5 (pcN := 5) (LN := [(0, (4, 0)), (1, (0, 3)), (2, (0, 0)), (3, (4, 1))]) (stN := [(0, 0), (0, 3), (4, 0), (0, 0), (4, 1)]) (hsN := jpA_3780) (c1 := 0) (s1 := 0) (c2 := 7) (s2 := 19) (by decide +kernel) ?_ (by omega) (by omega)
  refine jT_fB [0, 2, 3, 4, 5, 6, 7, 8, 9, 10, 11, 12, 13, 14, 15, 16, 17, 18, 19, 20, 21, 22, 23, 24, 25, 26] 27 (y := 152) (pcN := 8) (dC := 6) (bc1 := 7) (bc2 := 19) (c1 := 0) (c2 := 0) (as := [(4, 0), (0, 3), (0, 0)]) (asC := [(4, 0), (0, 3), (0, 0)]) (LN := [(0, (4, 0)), (1, (0, 3)), (2, (0, 0)), (3, (4, 1))]) (stN := [(0, 0), (4, 1)]) (hsC := jpA_3778) (hsD := jpA_3779) (v := (0, 0)) (st2 := [(0, 0), (0, 0), (4, 1)]) (hs2 := jpA_3781) (jA_152_1083 (d := 0)) (by rfl) (by rfl) (by decide +kernel) (by rfl) (by rfl) (by omega) (by omega) (by omega) (by omega) rfl (by decide +kernel) ?_
  refine jT_advK 4 (pcN := 18) (LN := [(0, (4, 0)), (1, (0, 3)), (2, (0, 0)), (3, (4, 1))]) (stN := [(0, 0)]) (hsN := jpA_3781) (c1 := 0) (s1 := 0) (c2 := 0) (s2 := 0) (by decide +kernel) ?_ (by omega) (by omega)
  exact jT_ret rfl (by decide) (by show 27 ≤ 34; decide) (by omega) (by omega) ⟨rfl, rfl, rfl⟩
theorem jA_203_1085 {xs : List Int} {d : Nat} : jT xs d 203 16 0 [(0, (4, 0)), (1, (4, 1)), (2, (0, 900))] [] jpA_3846 0 0 (fun k v hsN => k = 0 ∧ v = (9, 0) ∧ hsN = jpA_3847) := by
  refine jT_advK 12 (pcN := 17) (LN := [(3, (0, 0)), (0, (4, 0)), (1, (4, 1)), (2, (0, 900))]) (stN := [(0, 900), (4, 1), (0, 0), (4, 7)]) (hsN := jpA_3846) (c1 := 0) (s1 := 0) (c2 := 0) (s2 := 0) (by decide +kernel) ?_ (by omega) (by omega)
  refine jT_iald (x := 0) (a := 1) (j := 900) (fs := []) (X := jS0) (by rfl) (by rfl) (by rfl) (by rfl) (by decide +kernel) ?_
  refine jT_eq (LN := [(3, (0, 0)), (0, (4, 0)), (1, (4, 1)), (2, (0, 900))]) (stN := [(0, 0), (0, 0), (4, 7)]) (hsN := jpA_3846) rfl rfl rfl ?_
  refine jT_advK 14 (pcN := 17) (LN := [(3, (0, 1)), (0, (4, 0)), (1, (4, 1)), (2, (0, 900))]) (stN := [(0, 901), (4, 1), (0, 1), (4, 7)]) (hsN := jpA_3847) (c1 := 0) (s1 := 0) (c2 := 0) (s2 := 0) (by decide +kernel) ?_ (by omega) (by omega)
  refine jT_iald (x := 0) (a := 1) (j := 901) (fs := []) (X := jS0) (by rfl) (by rfl) (by rfl) (by rfl) (by decide +kernel) ?_
  refine jT_eq (LN := [(3, (0, 1)), (0, (4, 0)), (1, (4, 1)), (2, (0, 900))]) (stN := [(0, 0), (0, 1), (4, 7)]) (hsN := jpA_3847) rfl rfl rfl ?_
  refine jT_advK 14 (pcN := 17) (LN := [(3, (0, 2)), (0, (4, 0)), (1, (4, 1)), (2, (0, 900))]) (stN := [(0, 902), (4, 1), (0, 2), (4, 7)]) (hsN := jpA_3847) (c1 := 0) (s1 := 0) (c2 := 0) (s2 := 0) (by decide +kernel) ?_ (by omega) (by omega)
  refine jT_iald (x := 0) (a := 1) (j := 902) (fs := []) (X := jS0) (by rfl) (by rfl) (by rfl) (by rfl) (by decide +kernel) ?_
  refine jT_eq (LN := [(3, (0, 2)), (0, (4, 0)), (1, (4, 1)), (2, (0, 900))]) (stN := [(0, 0), (0, 2), (4, 7)]) (hsN := jpA_3847) rfl rfl rfl ?_
  refine jT_advK 14 (pcN := 17) (LN := [(3, (0, 3)), (0, (4, 0)), (1, (4, 1)), (2, (0, 900))]) (stN := [(0, 903), (4, 1), (0, 3), (4, 7)]) (hsN := jpA_3847) (c1 := 0) (s1 := 0) (c2 := 0) (s2 := 0) (by decide +kernel) ?_ (by omega) (by omega)
  refine jT_iald (x := 0) (a := 1) (j := 903) (fs := []) (X := jS0) (by rfl) (by rfl) (by rfl) (by rfl) (by decide +kernel) ?_
  refine jT_eq (LN := [(3, (0, 3)), (0, (4, 0)), (1, (4, 1)), (2, (0, 900))]) (stN := [(0, 0), (0, 3), (4, 7)]) (hsN := jpA_3847) rfl rfl rfl ?_
  refine jT_advK 14 (pcN := 17) (LN := [(3, (0, 4)), (0, (4, 0)), (1, (4, 1)), (2, (0, 900))]) (stN := [(0, 904), (4, 1), (0, 4), (4, 7)]) (hsN := jpA_3847) (c1 := 0) (s1 := 0) (c2 := 0) (s2 := 0) (by decide +kernel) ?_ (by omega) (by omega)
  refine jT_iald (x := 0) (a := 1) (j := 904) (fs := []) (X := jS0) (by rfl) (by rfl) (by rfl) (by rfl) (by decide +kernel) ?_
  refine jT_eq (LN := [(3, (0, 4)), (0, (4, 0)), (1, (4, 1)), (2, (0, 900))]) (stN := [(0, 0), (0, 4), (4, 7)]) (hsN := jpA_3847) rfl rfl rfl ?_
  refine jT_advK 14 (pcN := 17) (LN := [(3, (0, 5)), (0, (4, 0)), (1, (4, 1)), (2, (0, 900))]) (stN := [(0, 905), (4, 1), (0, 5), (4, 7)]) (hsN := jpA_3847) (c1 := 0) (s1 := 0) (c2 := 0) (s2 := 0) (by decide +kernel) ?_ (by omega) (by omega)
  refine jT_iald (x := 0) (a := 1) (j := 905) (fs := []) (X := jS0) (by rfl) (by rfl) (by rfl) (by rfl) (by decide +kernel) ?_
  refine jT_eq (LN := [(3, (0, 5)), (0, (4, 0)), (1, (4, 1)), (2, (0, 900))]) (stN := [(0, 0), (0, 5), (4, 7)]) (hsN := jpA_3847) rfl rfl rfl ?_
  refine jT_advK 12 (pcN := 32) (LN := [(3, (0, 6)), (0, (4, 0)), (1, (4, 1)), (2, (0, 900))]) (stN := [(0, 906), (4, 1), (4, 0)]) (hsN := jpA_3847) (c1 := 0) (s1 := 0) (c2 := 0) (s2 := 0) (by decide +kernel) ?_ (by omega) (by omega)
  refine jT_iald (x := 1) (a := 1) (j := 906) (fs := []) (X := jS0) (by rfl) (by rfl) (by rfl) (by rfl) (by decide +kernel) ?_
  refine jT_eq (LN := [(3, (0, 6)), (0, (4, 0)), (1, (4, 1)), (2, (0, 900))]) (stN := [(0, 1), (4, 0)]) (hsN := jpA_3847) rfl rfl rfl ?_
  refine jT_advK 2 (pcN := 37) (LN := [(3, (0, 6)), (0, (4, 0)), (1, (4, 1)), (2, (0, 900))]) (stN := []) (hsN := jpA_3847) (c1 := 0) (s1 := 0) (c2 := 0) (s2 := 0) (by decide +kernel) ?_ (by omega) (by omega)
  exact jT_ret rfl (by decide) (by show 16 ≤ 16; decide) (by omega) (by omega) ⟨rfl, rfl, rfl⟩
theorem jA_204_1086 {xs : List Int} {d : Nat} : jT xs (d + 3) 204 16 0 [(0, (4, 0)), (1, (4, 1)), (2, (0, 900)), (3, (1, (-1)))] [] jpA_3846 0 0 (fun k v hsN => k = 0 ∧ v = (9, 0) ∧ hsN = jpA_3846 ++ []) := by
  refine jT_advK 4 (pcN := 5) (LN := [(0, (4, 0)), (1, (4, 1)), (2, (0, 900)), (3, (1, (-1)))]) (stN := [(0, 906), (4, 1)]) (hsN := jpA_3846) (c1 := 0) (s1 := 0) (c2 := 0) (s2 := 0) (by decide +kernel) ?_ (by omega) (by omega)
  refine jT_iald (x := 1) (a := 1) (j := 906) (fs := []) (X := jS0) (by rfl) (by rfl) (by rfl) (by rfl) (by decide +kernel) ?_
  refine jT_eq (LN := [(0, (4, 0)), (1, (4, 1)), (2, (0, 900)), (3, (1, (-1)))]) (stN := [(0, 1)]) (hsN := jpA_3846) rfl rfl rfl ?_
  refine jT_advK 7 (pcN := 19) (LN := [(5, (1, 1)), (0, (4, 0)), (1, (4, 1)), (2, (0, 900)), (3, (1, (-1)))]) (stN := [(1, 1), (1, 1), (1, 1)]) (hsN := jpA_3846) (c1 := 0) (s1 := 0) (c2 := 0) (s2 := 0) (by decide +kernel) ?_ (by omega) (by omega)
  refine jT_fR [] 16 (y := 194) (pcN := 22) (dC := 1) (bc1 := 0) (bc2 := 0) (c1 := 0) (c2 := 0) (as := [(1, 1), (1, 1)]) (asC := [(1, 1), (1, 1)]) (LN := [(5, (1, 1)), (0, (4, 0)), (1, (4, 1)), (2, (0, 900)), (3, (1, (-1)))]) (stN := [(1, 1)]) (hsC := []) (v := (1, 1)) (st2 := [(1, 1), (1, 1)]) (jA_194_43 (d := 0)) (by rfl) (by rfl) (by decide +kernel) (by rfl) (by rfl) (by omega) (by omega) (by omega) (by omega) rfl ?_
  refine jT_advK 26 (pcN := 65) (LN := [(9, (0, 0)), (7, (1, 1)), (5, (1, 1)), (0, (4, 0)), (1, (4, 1)), (2, (0, 900)), (3, (1, (-1)))]) (stN := [(0, 900), (4, 1), (1, (-1)), (1, 1), (0, 0), (4, 7)]) (hsN := jpA_3846) (c1 := 0) (s1 := 0) (c2 := 0) (s2 := 0) (by decide +kernel) ?_ (by omega) (by omega)
  refine jT_iald (x := 0) (a := 1) (j := 900) (fs := []) (X := jS0) (by rfl) (by rfl) (by rfl) (by rfl) (by decide +kernel) ?_
  refine jT_eq (LN := [(9, (0, 0)), (7, (1, 1)), (5, (1, 1)), (0, (4, 0)), (1, (4, 1)), (2, (0, 900)), (3, (1, (-1)))]) (stN := [(0, 0), (1, (-1)), (1, 1), (0, 0), (4, 7)]) (hsN := jpA_3846) rfl rfl rfl ?_
  refine jT_advK 30 (pcN := 65) (LN := [(9, (0, 1)), (7, (1, 1)), (5, (1, 1)), (0, (4, 0)), (1, (4, 1)), (2, (0, 900)), (3, (1, (-1)))]) (stN := [(0, 901), (4, 1), (1, (-1)), (1, 0), (0, 1), (4, 7)]) (hsN := jpA_3846) (c1 := 0) (s1 := 0) (c2 := 0) (s2 := 0) (by decide +kernel) ?_ (by omega) (by omega)
  refine jT_iald (x := 0) (a := 1) (j := 901) (fs := []) (X := jS0) (by rfl) (by rfl) (by rfl) (by rfl) (by decide +kernel) ?_
  refine jT_eq (LN := [(9, (0, 1)), (7, (1, 1)), (5, (1, 1)), (0, (4, 0)), (1, (4, 1)), (2, (0, 900)), (3, (1, (-1)))]) (stN := [(0, 0), (1, (-1)), (1, 0), (0, 1), (4, 7)]) (hsN := jpA_3846) rfl rfl rfl ?_
  refine jT_advK 30 (pcN := 65) (LN := [(9, (0, 2)), (7, (1, 1)), (5, (1, 1)), (0, (4, 0)), (1, (4, 1)), (2, (0, 900)), (3, (1, (-1)))]) (stN := [(0, 902), (4, 1), (1, (-1)), (1, 0), (0, 2), (4, 7)]) (hsN := jpA_3846) (c1 := 0) (s1 := 0) (c2 := 0) (s2 := 0) (by decide +kernel) ?_ (by omega) (by omega)
  refine jT_iald (x := 0) (a := 1) (j := 902) (fs := []) (X := jS0) (by rfl) (by rfl) (by rfl) (by rfl) (by decide +kernel) ?_
  refine jT_eq (LN := [(9, (0, 2)), (7, (1, 1)), (5, (1, 1)), (0, (4, 0)), (1, (4, 1)), (2, (0, 900)), (3, (1, (-1)))]) (stN := [(0, 0), (1, (-1)), (1, 0), (0, 2), (4, 7)]) (hsN := jpA_3846) rfl rfl rfl ?_
  refine jT_advK 30 (pcN := 65) (LN := [(9, (0, 3)), (7, (1, 1)), (5, (1, 1)), (0, (4, 0)), (1, (4, 1)), (2, (0, 900)), (3, (1, (-1)))]) (stN := [(0, 903), (4, 1), (1, (-1)), (1, 0), (0, 3), (4, 7)]) (hsN := jpA_3846) (c1 := 0) (s1 := 0) (c2 := 0) (s2 := 0) (by decide +kernel) ?_ (by omega) (by omega)
  refine jT_iald (x := 0) (a := 1) (j := 903) (fs := []) (X := jS0) (by rfl) (by rfl) (by rfl) (by rfl) (by decide +kernel) ?_
  refine jT_eq (LN := [(9, (0, 3)), (7, (1, 1)), (5, (1, 1)), (0, (4, 0)), (1, (4, 1)), (2, (0, 900)), (3, (1, (-1)))]) (stN := [(0, 0), (1, (-1)), (1, 0), (0, 3), (4, 7)]) (hsN := jpA_3846) rfl rfl rfl ?_
  refine jT_advK 30 (pcN := 65) (LN := [(9, (0, 4)), (7, (1, 1)), (5, (1, 1)), (0, (4, 0)), (1, (4, 1)), (2, (0, 900)), (3, (1, (-1)))]) (stN := [(0, 904), (4, 1), (1, (-1)), (1, 0), (0, 4), (4, 7)]) (hsN := jpA_3846) (c1 := 0) (s1 := 0) (c2 := 0) (s2 := 0) (by decide +kernel) ?_ (by omega) (by omega)
  refine jT_iald (x := 0) (a := 1) (j := 904) (fs := []) (X := jS0) (by rfl) (by rfl) (by rfl) (by rfl) (by decide +kernel) ?_
  refine jT_eq (LN := [(9, (0, 4)), (7, (1, 1)), (5, (1, 1)), (0, (4, 0)), (1, (4, 1)), (2, (0, 900)), (3, (1, (-1)))]) (stN := [(0, 0), (1, (-1)), (1, 0), (0, 4), (4, 7)]) (hsN := jpA_3846) rfl rfl rfl ?_
  refine jT_advK 30 (pcN := 65) (LN := [(9, (0, 5)), (7, (1, 1)), (5, (1, 1)), (0, (4, 0)), (1, (4, 1)), (2, (0, 900)), (3, (1, (-1)))]) (stN := [(0, 905), (4, 1), (1, (-1)), (1, 0), (0, 5), (4, 7)]) (hsN := jpA_3846) (c1 := 0) (s1 := 0) (c2 := 0) (s2 := 0) (by decide +kernel) ?_ (by omega) (by omega)
  refine jT_iald (x := 0) (a := 1) (j := 905) (fs := []) (X := jS0) (by rfl) (by rfl) (by rfl) (by rfl) (by decide +kernel) ?_
  refine jT_eq (LN := [(9, (0, 5)), (7, (1, 1)), (5, (1, 1)), (0, (4, 0)), (1, (4, 1)), (2, (0, 900)), (3, (1, (-1)))]) (stN := [(0, 0), (1, (-1)), (1, 0), (0, 5), (4, 7)]) (hsN := jpA_3846) rfl rfl rfl ?_
  refine jT_advK 17 (pcN := 89) (LN := [(9, (0, 6)), (7, (1, 1)), (5, (1, 1)), (0, (4, 0)), (1, (4, 1)), (2, (0, 900)), (3, (1, (-1)))]) (stN := [(4, 0)]) (hsN := jpA_3846) (c1 := 0) (s1 := 0) (c2 := 0) (s2 := 0) (by decide +kernel) ?_ (by omega) (by omega)
  refine jT_fR [0, 1, 2, 3, 4, 5, 6, 7, 8, 9, 10, 11, 12, 13, 14, 15] 16 (y := 199) (pcN := 92) (dC := 2) (bc1 := 0) (bc2 := 0) (c1 := 0) (c2 := 0) (as := [(4, 0)]) (asC := [(4, 0)]) (LN := [(9, (0, 6)), (7, (1, 1)), (5, (1, 1)), (0, (4, 0)), (1, (4, 1)), (2, (0, 900)), (3, (1, (-1)))]) (stN := []) (hsC := jpA_3848) (v := (9, 0)) (st2 := []) (jA_199_1045 (d := 0)) (by rfl) (by rfl) (by decide +kernel) (by rfl) (by rfl) (by omega) (by omega) (by omega) (by omega) rfl ?_
  exact jT_ret rfl (by decide) (by show 16 ≤ 16; decide) (by omega) (by omega) ⟨rfl, rfl, rfl⟩
theorem jA_280_1087 {xs : List Int} {d : Nat} : jT xs (d + 4) 280 16 0 [(0, (4, 0)), (1, (0, 3)), (2, (0, 0))] [] jpA_3846 0 0 (fun k v hsN => k = 0 ∧ v = (9, 0) ∧ hsN = jpA_3846 ++ []) := by
  refine jT_advK 5 (pcN := 5) (LN := [(0, (4, 0)), (1, (0, 3)), (2, (0, 0))]) (stN := [(0, 3), (4, 0), (0, 1)]) (hsN := jpA_3846) (c1 := 0) (s1 := 0) (c2 := 0) (s2 := 0) (by decide +kernel) ?_ (by omega) (by omega)
  refine jT_fR [0, 1, 2, 3, 4, 5, 6, 7, 8, 9, 10, 11, 12, 13, 14, 15] 16 (y := 245) (pcN := 8) (dC := 0) (bc1 := 0) (bc2 := 0) (c1 := 0) (c2 := 0) (as := [(4, 0), (0, 3)]) (asC := [(4, 0), (0, 3)]) (LN := [(0, (4, 0)), (1, (0, 3)), (2, (0, 0))]) (stN := [(0, 1)]) (hsC := jpA_1545) (v := (0, 1)) (st2 := [(0, 1), (0, 1)]) (jA_245_399 (d := 0)) (by rfl) (by rfl) (by decide +kernel) (by rfl) (by rfl) (by omega) (by omega) (by omega) (by omega) rfl ?_
  refine jT_advK 7 (pcN := 17) (LN := [(3, (0, 0)), (0, (4, 0)), (1, (0, 3)), (2, (0, 0))]) (stN := [(0, 0), (0, 3), (4, 1), (4, 0)]) (hsN := jpA_3846) (c1 := 0) (s1 := 0) (c2 := 0) (s2 := 0) (by decide +kernel) ?_ (by omega) (by omega)
  refine jT_fR [] 16 (y := 242) (pcN := 20) (dC := 0) (bc1 := 0) (bc2 := 0) (c1 := 0) (c2 := 0) (as := [(0, 3), (0, 0)]) (asC := [(0, 3), (0, 0)]) (LN := [(3, (0, 0)), (0, (4, 0)), (1, (0, 3)), (2, (0, 0))]) (stN := [(4, 1), (4, 0)]) (hsC := []) (v := (0, 900)) (st2 := [(0, 900), (4, 1), (4, 0)]) (jA_242_395 (d := 0)) (by rfl) (by rfl) (by decide +kernel) (by rfl) (by rfl) (by omega) (by omega) (by omega) (by omega) rfl ?_
  refine jT_fB [0, 1, 2, 3, 4, 5, 6, 7, 8, 9, 10, 11, 12, 13, 14, 15] 16 (y := 203) (pcN := 23) (dC := 0) (bc1 := 0) (bc2 := 0) (c1 := 0) (c2 := 0) (as := [(4, 0), (4, 1), (0, 900)]) (asC := [(4, 0), (4, 1), (0, 900)]) (LN := [(3, (0, 0)), (0, (4, 0)), (1, (0, 3)), (2, (0, 0))]) (stN := []) (hsC := jpA_3846) (hsD := jpA_3847) (v := (9, 0)) (st2 := []) (hs2 := jpA_3847) (jA_203_1085 (d := 0)) (by rfl) (by rfl) (by decide +kernel) (by rfl) (by rfl) (by omega) (by omega) (by omega) (by omega) rfl (by decide +kernel) ?_
  refine jT_advK 16 (pcN := 47) (LN := [(3, (0, 0)), (0, (4, 0)), (1, (0, 3)), (2, (0, 0))]) (stN := [(0, 0), (0, 3), (4, 1), (4, 0)]) (hsN := jpA_3846) (c1 := 0) (s1 := 0) (c2 := 0) (s2 := 0) (by decide +kernel) ?_ (by omega) (by omega)
  refine jT_fR [] 16 (y := 242) (pcN := 50) (dC := 0) (bc1 := 0) (bc2 := 0) (c1 := 0) (c2 := 0) (as := [(0, 3), (0, 0)]) (asC := [(0, 3), (0, 0)]) (LN := [(3, (0, 0)), (0, (4, 0)), (1, (0, 3)), (2, (0, 0))]) (stN := [(4, 1), (4, 0)]) (hsC := []) (v := (0, 900)) (st2 := [(0, 900), (4, 1), (4, 0)]) (jA_242_395 (d := 0)) (by rfl) (by rfl) (by decide +kernel) (by rfl) (by rfl) (by omega) (by omega) (by omega) (by omega) rfl ?_
  refine jT_advK 1 (pcN := 53) (LN := [(3, (0, 0)), (0, (4, 0)), (1, (0, 3)), (2, (0, 0))]) (stN := [(1, (-1)), (0, 900), (4, 1), (4, 0)]) (hsN := jpA_3846) (c1 := 0) (s1 := 0) (c2 := 0) (s2 := 0) (by decide +kernel) ?_ (by omega) (by omega)
  refine jT_fR [0, 1, 2, 3, 4, 5, 6, 7, 8, 9, 10, 11, 12, 13, 14, 15] 16 (y := 204) (pcN := 56) (dC := 3) (bc1 := 0) (bc2 := 0) (c1 := 0) (c2 := 0) (as := [(4, 0), (4, 1), (0, 900), (1, (-1))]) (asC := [(4, 0), (4, 1), (0, 900), (1, (-1))]) (LN := [(3, (0, 0)), (0, (4, 0)), (1, (0, 3)), (2, (0, 0))]) (stN := []) (hsC := jpA_3846) (v := (9, 0)) (st2 := []) (jA_204_1086 (d := 0)) (by rfl) (by rfl) (by decide +kernel) (by rfl) (by rfl) (by omega) (by omega) (by omega) (by omega) rfl ?_
  exact jT_ret rfl (by decide) (by show 16 ≤ 16; decide) (by omega) (by omega) ⟨rfl, rfl, rfl⟩
theorem jA_284_1088 {xs : List Int} {d : Nat} : jT xs (d + 5) 284 16 0 [(0, (4, 0)), (1, (0, 3)), (2, (0, 0))] [] jpA_3766 0 0 (fun k v hsN => k = 0 ∧ v = (0, 0) ∧ hsN = jpA_3766 ++ []) := by
  refine jT_advK 3 (pcN := 3) (LN := [(0, (4, 0)), (1, (0, 3)), (2, (0, 0))]) (stN := [(0, 0), (0, 3), (4, 0)]) (hsN := jpA_3766) (c1 := 0) (s1 := 0) (c2 := 0) (s2 := 0) (by decide +kernel) ?_ (by omega) (by omega)
  refine jT_fR [0, 1, 2, 3, 4, 5, 6, 7, 8, 9, 10, 11, 12, 13, 14, 15] 16 (y := 280) (pcN := 6) (dC := 4) (bc1 := 0) (bc2 := 0) (c1 := 0) (c2 := 0) (as := [(4, 0), (0, 3), (0, 0)]) (asC := [(4, 0), (0, 3), (0, 0)]) (LN := [(0, (4, 0)), (1, (0, 3)), (2, (0, 0))]) (stN := []) (hsC := jpA_3846) (v := (9, 0)) (st2 := []) (jA_280_1087 (d := 0)) (by rfl) (by rfl) (by decide +kernel) (by rfl) (by rfl) (by omega) (by omega) (by omega) (by omega) rfl ?_
  refine jT_advK 8 (pcN := 17) (LN := [(3, (0, 0)), (0, (4, 0)), (1, (0, 3)), (2, (0, 0))]) (stN := [(0, 0), (4, 8), (4, 0)]) (hsN := jpA_3766) (c1 := 0) (s1 := 0) (c2 := 0) (s2 := 0) (by decide +kernel) ?_ (by omega) (by omega)
  refine jT_fR [0, 8, 1, 2, 3, 4, 5, 6, 7, 9, 10, 11, 12, 13, 14, 15] 16 (y := 236) (pcN := 20) (dC := 0) (bc1 := 0) (bc2 := 0) (c1 := 0) (c2 := 0) (as := [(4, 0), (4, 8), (0, 0)]) (asC := [(4, 0), (4, 1), (0, 0)]) (LN := [(3, (0, 0)), (0, (4, 0)), (1, (0, 3)), (2, (0, 0))]) (stN := []) (hsC := jpA_3849) (v := (0, 1)) (st2 := [(0, 1)]) (jA_236_1048 (d := 0)) (by rfl) (by rfl) (by decide +kernel) (by rfl) (by rfl) (by omega) (by omega) (by omega) (by omega) rfl ?_
  refine jT_advK 2 (pcN := 30) (LN := [(3, (0, 0)), (0, (4, 0)), (1, (0, 3)), (2, (0, 0))]) (stN := [(0, 0)]) (hsN := jpA_3766) (c1 := 0) (s1 := 0) (c2 := 0) (s2 := 0) (by decide +kernel) ?_ (by omega) (by omega)
  exact jT_ret rfl (by decide) (by show 16 ≤ 16; decide) (by omega) (by omega) ⟨rfl, rfl, rfl⟩
theorem jA_283_1089 {xs : List Int} {d : Nat} : jT xs (d + 6) 283 16 0 [(0, (4, 0)), (1, (0, 3)), (2, (0, 0))] [] jpA_1840 0 0 (fun k v hsN => k = 0 ∧ v = (0, 0) ∧ hsN = jpA_3766) := by
  refine jT_advK 2 (pcN := 2) (LN := [(0, (4, 0)), (1, (0, 3)), (2, (0, 0))]) (stN := [(0, 3), (4, 0)]) (hsN := jpA_1840) (c1 := 0) (s1 := 0) (c2 := 0) (s2 := 0) (by decide +kernel) ?_ (by omega) (by omega)
  refine jT_fR [] 16 (y := 238) (pcN := 5) (dC := 1) (bc1 := 0) (bc2 := 0) (c1 := 0) (c2 := 0) (as := [(0, 3)]) (asC := [(0, 3)]) (LN := [(0, (4, 0)), (1, (0, 3)), (2, (0, 0))]) (stN := [(4, 0)]) (hsC := []) (v := (0, 1)) (st2 := [(0, 1), (4, 0)]) (jA_238_393 (d := 0)) (by rfl) (by rfl) (by decide +kernel) (by rfl) (by rfl) (by omega) (by omega) (by omega) (by omega) rfl ?_
  refine jT_fR [0, 1, 2, 3, 4, 5, 6, 7, 8, 9, 10, 11, 12, 13, 14, 15] 16 (y := 190) (pcN := 8) (dC := 1) (bc1 := 0) (bc2 := 0) (c1 := 0) (c2 := 0) (as := [(4, 0), (0, 1)]) (asC := [(4, 0), (0, 1)]) (LN := [(0, (4, 0)), (1, (0, 3)), (2, (0, 0))]) (stN := []) (hsC := jpA_22) (v := (0, 0)) (st2 := [(0, 0)]) (jA_190_39 (d := 0)) (by rfl) (by rfl) (by decide +kernel) (by rfl) (by rfl) (by omega) (by omega) (by omega) (by omega) rfl ?_
  refine jT_advK 5 (pcN := 15) (LN := [(0, (4, 0)), (1, (0, 3)), (2, (0, 0))]) (stN := [(0, 0), (0, 3), (4, 0), (4, 0)]) (hsN := jpA_1840) (c1 := 0) (s1 := 0) (c2 := 0) (s2 := 0) (by decide +kernel) ?_ (by omega) (by omega)
  refine jT_fR [0, 1, 2, 3, 4, 5, 6, 7, 8, 9, 10, 11, 12, 13, 14, 15] 16 (y := 247) (pcN := 18) (dC := 1) (bc1 := 0) (bc2 := 0) (c1 := 0) (c2 := 0) (as := [(4, 0), (0, 3), (0, 0)]) (asC := [(4, 0), (0, 3), (0, 0)]) (LN := [(0, (4, 0)), (1, (0, 3)), (2, (0, 0))]) (stN := [(4, 0)]) (hsC := jpA_1519) (v := (0, 1)) (st2 := [(0, 1), (4, 0)]) (jA_247_492 (d := 0)) (by rfl) (by rfl) (by decide +kernel) (by rfl) (by rfl) (by omega) (by omega) (by omega) (by omega) rfl ?_
  refine jT_advK 1 (pcN := 19) (LN := [(0, (4, 0)), (1, (0, 3)), (2, (0, 0))]) (stN := [(0, 1), (0, 1), (4, 0)]) (hsN := jpA_1840) (c1 := 0) (s1 := 0) (c2 := 0) (s2 := 0) (by decide +kernel) ?_ (by omega) (by omega)
  refine jT_fR [0] 16 (y := 191) (pcN := 22) (dC := 0) (bc1 := 0) (bc2 := 0) (c1 := 0) (c2 := 0) (as := [(4, 0), (0, 1), (0, 1)]) (asC := [(4, 0), (0, 1), (0, 1)]) (LN := [(0, (4, 0)), (1, (0, 3)), (2, (0, 0))]) (stN := []) (hsC := [jgh]) (v := (0, 0)) (st2 := [(0, 0)]) (jA_191_38 (d := 0)) (by rfl) (by rfl) (by decide +kernel) (by rfl) (by rfl) (by omega) (by omega) (by omega) (by omega) rfl ?_
  refine jT_advK 3 (pcN := 29) (LN := [(0, (4, 0)), (1, (0, 3)), (2, (0, 0))]) (stN := [(0, 3), (4, 0)]) (hsN := jpA_1840) (c1 := 0) (s1 := 0) (c2 := 0) (s2 := 0) (by decide +kernel) ?_ (by omega) (by omega)
  refine jT_fB [0, 1, 2, 3, 4, 5, 6, 7, 8, 9, 10, 11, 12, 13, 14, 15] 16 (y := 282) (pcN := 32) (dC := 5) (bc1 := 0) (bc2 := 0) (c1 := 0) (c2 := 0) (as := [(4, 0), (0, 3)]) (asC := [(4, 0), (0, 3)]) (LN := [(0, (4, 0)), (1, (0, 3)), (2, (0, 0))]) (stN := []) (hsC := jpA_1840) (hsD := jpA_3766) (v := (9, 0)) (st2 := []) (hs2 := jpA_3766) (jA_282_1031 (d := 0)) (by rfl) (by rfl) (by decide +kernel) (by rfl) (by rfl) (by omega) (by omega) (by omega) (by omega) rfl (by decide +kernel) ?_
  refine jT_advK 3 (pcN := 35) (LN := [(0, (4, 0)), (1, (0, 3)), (2, (0, 0))]) (stN := [(0, 0), (0, 3), (4, 0)]) (hsN := jpA_3766) (c1 := 0) (s1 := 0) (c2 := 0) (s2 := 0) (by decide +kernel) ?_ (by omega) (by omega)
  refine jT_fR [0, 1, 2, 3, 4, 5, 6, 7, 8, 9, 10, 11, 12, 13, 14, 15] 16 (y := 284) (pcN := 38) (dC := 5) (bc1 := 0) (bc2 := 0) (c1 := 0) (c2 := 0) (as := [(4, 0), (0, 3), (0, 0)]) (asC := [(4, 0), (0, 3), (0, 0)]) (LN := [(0, (4, 0)), (1, (0, 3)), (2, (0, 0))]) (stN := []) (hsC := jpA_3766) (v := (0, 0)) (st2 := [(0, 0)]) (jA_284_1088 (d := 0)) (by rfl) (by rfl) (by decide +kernel) (by rfl) (by rfl) (by omega) (by omega) (by omega) (by omega) rfl ?_
  exact jT_ret rfl (by decide) (by show 16 ≤ 16; decide) (by omega) (by omega) ⟨rfl, rfl, rfl⟩
theorem jA_152_1090 {xs : List Int} {d : Nat} {x2 : Int} (h_x2 : 1 ≤ x2 ∧ x2 ≤ 2147483647) : jT xs (d + 1) 152 23 0 [(0, (4, 0)), (1, (0, 3)), (2, (0, x2))] [] jpA_1871 1 6 (fun k v hsN => k = 1 ∧ v = (0, 0) ∧ hsN = jpA_1871 ++ []) := by
  refine jT_xaload_n (v := (4, 0)) (pcN := 1) jI_152_0 rfl rfl rfl ?_
  refine jT_xiload_n (v := (0, 3)) (pcN := 2) jI_152_1 rfl rfl rfl ?_
  refine jT_xiconst (k := 4) (pcN := 3) jI_152_2 rfl ?_
  refine jT_fR [0] 23 (y := 115) (pcN := 6) (dC := 0) (bc1 := 0) (bc2 := 0) (c1 := 1) (c2 := 6) (as := [(4, 0), (0, 3), (0, 4)]) (asC := [(4, 0), (0, 3), (0, 4)]) (LN := [(0, (4, 0)), (1, (0, 3)), (2, (0, x2))]) (stN := []) (hsC := [jgh]) (v := (9, 0)) (st2 := []) (jA_115_387 (d := 0)) (by rfl) (by rfl) (by decide +kernel) (by rfl) (by rfl) (by omega) (by omega) (by omega) (by omega) rfl ?_
  refine jT_xaload_n (v := (4, 0)) (pcN := 7) jI_152_6 rfl rfl rfl ?_
  refine jT_xgetf (a := 0) (t := 1) (ci := 13) (fi := 11) (c := jzA_5) (v := (4, 11)) (pcN := 10) jI_152_7 rfl rfl rfl rfl rfl rfl rfl ?_
  refine jT_xiload_n (v := (0, 3)) (pcN := 11) jI_152_10 rfl rfl rfl ?_
  refine jT_fR [11, 12, 13, 14, 15, 16, 17, 18, 19, 20] 23 (y := 56) (pcN := 14) (dC := 0) (bc1 := 0) (bc2 := 0) (c1 := 1) (c2 := 6) (as := [(4, 11), (0, 3)]) (asC := [(4, 0), (0, 3)]) (LN := [(0, (4, 0)), (1, (0, 3)), (2, (0, x2))]) (stN := []) (hsC := jpA_1446) (v := (4, 9)) (st2 := [(4, 20)]) (jA_56_388 (d := 0)) (by rfl) (by rfl) (by decide +kernel) (by rfl) (by rfl) (by omega) (by omega) (by omega) (by omega) rfl ?_
  refine jT_xastore_n (v := (4, 20)) (LN := [(3, (4, 20)), (0, (4, 0)), (1, (0, 3)), (2, (0, x2))]) (pcN := 15) jI_152_14 rfl rfl rfl rfl ?_
  refine jT_xaload_n (v := (4, 0)) (pcN := 16) jI_152_15 rfl rfl rfl ?_
  refine jT_xiload_n (v := (0, x2)) (pcN := 17) jI_152_16 rfl rfl rfl ?_
  refine jT_xaload_n (v := (4, 20)) (pcN := 18) jI_152_17 rfl rfl rfl ?_
  refine jT_fR [20, 21, 22] 23 (y := 29) (pcN := 21) (dC := 0) (bc1 := 0) (bc2 := 0) (c1 := 1) (c2 := 6) (as := [(4, 20)]) (asC := [(4, 0)]) (LN := [(3, (4, 20)), (0, (4, 0)), (1, (0, 3)), (2, (0, x2))]) (stN := [(0, x2), (4, 0)]) (hsC := [(7, [(4, 1), (4, (-1)), (4, (-1))], []), (114, [], [2]), jgh]) (v := (0, 1)) (st2 := [(0, 1), (0, x2), (4, 0)]) (jA_29_416 (d := 0)) (by rfl) (by rfl) (by decide +kernel) (by rfl) (by rfl) (by omega) (by omega) (by omega) (by omega) rfl ?_
  exact jT_fX [0] 23 (y := 115) (pcN := 24) (dC := 0) (bc1 := 1) (bc2 := 6) (as := [(4, 0), (0, x2), (0, 1)]) (asC := [(4, 0), (0, x2), (0, 1)]) (LN := [(3, (4, 20)), (0, (4, 0)), (1, (0, 3)), (2, (0, x2))]) (stN := []) (hsC := [jgh]) (e := 0) (jA_115_453 (d := 0) (by omega)) (by rfl) (by rfl) (by decide +kernel) (by rfl) (by rfl) (by omega) (by omega) (by omega) (by omega) ⟨rfl, ⟨rfl, rfl, rfl⟩⟩
theorem jA_356_1091 {xs : List Int} {d : Nat} {x2 : Int} (h_x2 : 1 ≤ x2 ∧ x2 ≤ 2147483647) : jT xs (d + 2) 356 24 0 [(0, (4, 0)), (1, (0, 3)), (2, (0, x2)), (3, (4, 1))] [] jpA_1872 1 6 (fun k v hsN => k = 0 ∧ v = (0, 1) ∧ hsN = jpA_1872 ++ []) := by
  refine jT_xaload_n (v := (4, 1)) (pcN := 1) jI_356_0 rfl rfl rfl ?_
  refine jT_xiconst (k := 0) (pcN := 2) jI_356_1 rfl ?_
  refine jT_xaload_n (v := (4, 0)) (pcN := 3) jI_356_2 rfl rfl rfl ?_
  refine jT_xiload_n (v := (0, 3)) (pcN := 4) jI_356_3 rfl rfl rfl ?_
  refine jT_xiload_n (v := (0, x2)) (pcN := 5) jI_356_4 rfl rfl rfl ?_
  exact jT_fX [0, 2, 3, 4, 5, 6, 7, 8, 9, 10, 11, 12, 13, 14, 15, 16, 17, 18, 19, 20, 21, 22, 23] 24 (y := 152) (pcN := 8) (dC := 1) (bc1 := 1) (bc2 := 6) (as := [(4, 0), (0, 3), (0, x2)]) (asC := [(4, 0), (0, 3), (0, x2)]) (LN := [(0, (4, 0)), (1, (0, 3)), (2, (0, x2)), (3, (4, 1))]) (stN := [(0, 0), (4, 1)]) (hsC := jpA_1871) (e := 0) (jA_152_1090 (d := 0) (by omega)) (by rfl) (by rfl) (by decide +kernel) (by rfl) (by rfl) (by omega) (by omega) (by omega) (by omega) (show _ from ⟨rfl, rfl, rfl⟩)
theorem jA_283_1092 {xs : List Int} {d : Nat} {x2 : Int} (h_x2 : 1 ≤ x2 ∧ x2 ≤ 2147483647) : jT xs (d + 2) 283 16 0 [(0, (4, 0)), (1, (0, 3)), (2, (0, x2))] [] jpA_1519 0 0 (fun k v hsN => k = 0 ∧ v = (0, 0) ∧ hsN = jpA_1820) := by
  refine jT_xaload_n (v := (4, 0)) (pcN := 1) jI_283_0 rfl rfl rfl ?_
  refine jT_xiload_n (v := (0, 3)) (pcN := 2) jI_283_1 rfl rfl rfl ?_
  refine jT_fR [] 16 (y := 238) (pcN := 5) (dC := 1) (bc1 := 0) (bc2 := 0) (c1 := 0) (c2 := 0) (as := [(0, 3)]) (asC := [(0, 3)]) (LN := [(0, (4, 0)), (1, (0, 3)), (2, (0, x2))]) (stN := [(4, 0)]) (hsC := []) (v := (0, 1)) (st2 := [(0, 1), (4, 0)]) (jA_238_393 (d := 0)) (by rfl) (by rfl) (by decide +kernel) (by rfl) (by rfl) (by omega) (by omega) (by omega) (by omega) rfl ?_
  refine jT_fR [0, 1, 2, 3, 4, 5, 6, 7, 8, 9, 10, 11, 12, 13, 14, 15] 16 (y := 190) (pcN := 8) (dC := 1) (bc1 := 0) (bc2 := 0) (c1 := 0) (c2 := 0) (as := [(4, 0), (0, 1)]) (asC := [(4, 0), (0, 1)]) (LN := [(0, (4, 0)), (1, (0, 3)), (2, (0, x2))]) (stN := []) (hsC := jpA_22) (v := (0, 0)) (st2 := [(0, 0)]) (jA_190_39 (d := 0)) (by rfl) (by rfl) (by decide +kernel) (by rfl) (by rfl) (by omega) (by omega) (by omega) (by omega) rfl ?_
  refine jT_xifF (t := 25) (pcN := 11) jI_283_8 rfl (by decide +kernel) rfl rfl ?_
  refine jT_xaload_n (v := (4, 0)) (pcN := 12) jI_283_11 rfl rfl rfl ?_
  refine jT_xaload_n (v := (4, 0)) (pcN := 13) jI_283_12 rfl rfl rfl ?_
  refine jT_xiload_n (v := (0, 3)) (pcN := 14) jI_283_13 rfl rfl rfl ?_
  refine jT_xiload_n (v := (0, x2)) (pcN := 15) jI_283_14 rfl rfl rfl ?_
  refine jT_fR [0, 1, 2, 3, 4, 5, 6, 7, 8, 9, 10, 11, 12, 13, 14, 15] 16 (y := 247) (pcN := 18) (dC := 1) (bc1 := 0) (bc2 := 0) (c1 := 0) (c2 := 0) (as := [(4, 0), (0, 3), (0, x2)]) (asC := [(4, 0), (0, 3), (0, x2)]) (LN := [(0, (4, 0)), (1, (0, 3)), (2, (0, x2))]) (stN := [(4, 0)]) (hsC := jpA_1519) (v := (0, 0)) (st2 := [(0, 0), (4, 0)]) (jA_247_498 (d := 0) (by omega)) (by rfl) (by rfl) (by decide +kernel) (by rfl) (by rfl) (by omega) (by omega) (by omega) (by omega) rfl ?_
  refine jT_xiconst (k := 1) (pcN := 19) jI_283_18 rfl ?_
  refine jT_fB [0, 1, 2, 3, 4, 5, 6, 7, 8, 9, 10, 11, 12, 13, 14, 15] 16 (y := 191) (pcN := 22) (dC := 0) (bc1 := 0) (bc2 := 0) (c1 := 0) (c2 := 0) (as := [(4, 0), (0, 0), (0, 1)]) (asC := [(4, 0), (0, 0), (0, 1)]) (LN := [(0, (4, 0)), (1, (0, 3)), (2, (0, x2))]) (stN := []) (hsC := jpA_22) (hsD := jpA_20) (v := (0, 1)) (st2 := [(0, 1)]) (hs2 := jpA_1820) (jA_191_5 (d := 0)) (by rfl) (by rfl) (by decide +kernel) (by rfl) (by rfl) (by omega) (by omega) (by omega) (by omega) rfl (by decide +kernel) ?_
  refine jT_xifF (t := 27) (pcN := 25) jI_283_22 rfl (by decide +kernel) rfl rfl ?_
  refine jT_xiconst (k := 0) (pcN := 26) jI_283_25 rfl ?_
  exact jT_ret rfl (by decide) (by show 16 ≤ 16; decide) (by omega) (by omega) ⟨rfl, rfl, rfl⟩
theorem jA_152_1093 {xs : List Int} {d : Nat} {x1 x2 : Int} (h_x1 : 4 ≤ x1 ∧ x1 ≤ 2147483647) (h_x2 : (-2147483648) ≤ x2 ∧ x2 ≤ 2147483647) : jT xs (d + 1) 152 12 0 [(0, (4, 0)), (1, (0, x1)), (2, (0, x2))] [] jpA_6 1 6 (fun k v hsN => k = 1 ∧ v = (0, 0) ∧ hsN = jpA_6 ++ []) := by
  refine jT_xaload_n (v := (4, 0)) (pcN := 1) jI_152_0 rfl rfl rfl ?_
  refine jT_xiload_n (v := (0, x1)) (pcN := 2) jI_152_1 rfl rfl rfl ?_
  refine jT_xiconst (k := 4) (pcN := 3) jI_152_2 rfl ?_
  exact jT_fX [0] 12 (y := 115) (pcN := 6) (dC := 0) (bc1 := 1) (bc2 := 6) (as := [(4, 0), (0, x1), (0, 4)]) (asC := [(4, 0), (0, x1), (0, 4)]) (LN := [(0, (4, 0)), (1, (0, x1)), (2, (0, x2))]) (stN := []) (hsC := [jgh]) (e := 0) (jA_115_405 (d := 0) (by omega)) (by rfl) (by rfl) (by decide +kernel) (by rfl) (by rfl) (by omega) (by omega) (by omega) (by omega) ⟨rfl, ⟨rfl, rfl, rfl⟩⟩
theorem jA_356_1094 {xs : List Int} {d : Nat} {x1 x2 : Int} (h_x1 : 4 ≤ x1 ∧ x1 ≤ 2147483647) (h_x2 : (-2147483648) ≤ x2 ∧ x2 ≤ 2147483647) : jT xs (d + 2) 356 13 0 [(0, (4, 0)), (1, (0, x1)), (2, (0, x2)), (3, (4, 1))] [] jpA_15 1 6 (fun k v hsN => k = 0 ∧ v = (0, 1) ∧ hsN = jpA_15 ++ []) := by
  refine jT_xaload_n (v := (4, 1)) (pcN := 1) jI_356_0 rfl rfl rfl ?_
  refine jT_xiconst (k := 0) (pcN := 2) jI_356_1 rfl ?_
  refine jT_xaload_n (v := (4, 0)) (pcN := 3) jI_356_2 rfl rfl rfl ?_
  refine jT_xiload_n (v := (0, x1)) (pcN := 4) jI_356_3 rfl rfl rfl ?_
  refine jT_xiload_n (v := (0, x2)) (pcN := 5) jI_356_4 rfl rfl rfl ?_
  exact jT_fX [0, 2, 3, 4, 5, 6, 7, 8, 9, 10, 11, 12] 13 (y := 152) (pcN := 8) (dC := 1) (bc1 := 1) (bc2 := 6) (as := [(4, 0), (0, x1), (0, x2)]) (asC := [(4, 0), (0, x1), (0, x2)]) (LN := [(0, (4, 0)), (1, (0, x1)), (2, (0, x2)), (3, (4, 1))]) (stN := [(0, 0), (4, 1)]) (hsC := jpA_6) (e := 0) (jA_152_1093 (d := 0) (by omega) (by omega)) (by rfl) (by rfl) (by decide +kernel) (by rfl) (by rfl) (by omega) (by omega) (by omega) (by omega) (show _ from ⟨rfl, rfl, rfl⟩)
theorem jA_283_1095 {xs : List Int} {d : Nat} {x1 x2 : Int} (h_x1 : 4 ≤ x1 ∧ x1 ≤ 2147483647) (h_x2 : (-2147483648) ≤ x2 ∧ x2 ≤ 2147483647) : jT xs (d + 2) 283 16 0 [(0, (4, 0)), (1, (0, x1)), (2, (0, x2))] [] jpA_22 0 0 (fun k v hsN => k = 0 ∧ v = (0, 0) ∧ hsN = jpA_20) := by
  refine jT_xaload_n (v := (4, 0)) (pcN := 1) jI_283_0 rfl rfl rfl ?_
  refine jT_xiload_n (v := (0, x1)) (pcN := 2) jI_283_1 rfl rfl rfl ?_
  refine jT_fR [] 16 (y := 238) (pcN := 5) (dC := 1) (bc1 := 0) (bc2 := 0) (c1 := 0) (c2 := 0) (as := [(0, x1)]) (asC := [(0, x1)]) (LN := [(0, (4, 0)), (1, (0, x1)), (2, (0, x2))]) (stN := [(4, 0)]) (hsC := []) (v := (0, 0)) (st2 := [(0, 0), (4, 0)]) (jA_238_408 (d := 0) (by omega)) (by rfl) (by rfl) (by decide +kernel) (by rfl) (by rfl) (by omega) (by omega) (by omega) (by omega) rfl ?_
  refine jT_fB [0, 1, 2, 3, 4, 5, 6, 7, 8, 9, 10, 11, 12, 13, 14, 15] 16 (y := 190) (pcN := 8) (dC := 1) (bc1 := 0) (bc2 := 0) (c1 := 0) (c2 := 0) (as := [(4, 0), (0, 0)]) (asC := [(4, 0), (0, 0)]) (LN := [(0, (4, 0)), (1, (0, x1)), (2, (0, x2))]) (stN := []) (hsC := jpA_22) (hsD := jpA_20) (v := (0, 1)) (st2 := [(0, 1)]) (hs2 := jpA_20) (jA_190_6 (d := 0)) (by rfl) (by rfl) (by decide +kernel) (by rfl) (by rfl) (by omega) (by omega) (by omega) (by omega) rfl (by decide +kernel) ?_
  refine jT_xifT (pcN := 25) jI_283_8 rfl (by decide +kernel) rfl ?_
  refine jT_xiconst (k := 0) (pcN := 26) jI_283_25 rfl ?_
  exact jT_ret rfl (by decide) (by show 16 ≤ 16; decide) (by omega) (by omega) ⟨rfl, rfl, rfl⟩
theorem jI_379_2474 : jmI (jm 379) 2474 = (.aload_n 1, 1) := by rfl
theorem jI_379_2475 : jmI (jm 379) 2475 = (.aload_n 0, 1) := by rfl
theorem jI_379_2476 : jmI (jm 379) 2476 = (.iload 5, 2) := by rfl
theorem jI_379_2478 : jmI (jm 379) 2478 = (.iconst 1, 1) := by rfl
theorem jI_379_2479 : jmI (jm 379) 2479 = (.iadd, 1) := by rfl
theorem jI_379_2481 : jmI (jm 379) 2481 = (.aload_n 0, 1) := by rfl
theorem jI_379_2482 : jmI (jm 379) 2482 = (.iload 5, 2) := by rfl
theorem jI_379_2484 : jmI (jm 379) 2484 = (.iconst 2, 1) := by rfl
theorem jI_379_2485 : jmI (jm 379) 2485 = (.iadd, 1) := by rfl
theorem jI_379_2487 : jmI (jm 379) 2487 = (.aload_n 3, 1) := by rfl
theorem jI_379_2491 : jmI (jm 379) 2491 = (.istore 6, 2) := by rfl
theorem jI_379_2493 : jmI (jm 379) 2493 = (.aload_n 2, 1) := by rfl
theorem jI_379_2494 : jmI (jm 379) 2494 = (.aload_n 0, 1) := by rfl
theorem jI_379_2495 : jmI (jm 379) 2495 = (.iload 5, 2) := by rfl
theorem jI_379_2497 : jmI (jm 379) 2497 = (.iconst 1, 1) := by rfl
theorem jI_379_2498 : jmI (jm 379) 2498 = (.iadd, 1) := by rfl
theorem jI_379_2500 : jmI (jm 379) 2500 = (.aload_n 0, 1) := by rfl
theorem jI_379_2501 : jmI (jm 379) 2501 = (.iload 5, 2) := by rfl
theorem jI_379_2503 : jmI (jm 379) 2503 = (.iconst 2, 1) := by rfl
theorem jI_379_2504 : jmI (jm 379) 2504 = (.iadd, 1) := by rfl
theorem jI_379_2509 : jmI (jm 379) 2509 = (.istore 7, 2) := by rfl
theorem jI_379_2511 : jmI (jm 379) 2511 = (.aload_n 2, 1) := by rfl
theorem jI_379_2515 : jmI (jm 379) 2515 = (.iload 6, 2) := by rfl
theorem jI_379_2517 : jmI (jm 379) 2517 = (.if_icmp .eq 5, 3) := by rfl
theorem jI_379_2522 : jmI (jm 379) 2522 = (.iload 6, 2) := by rfl
theorem jI_379_2524 : jmI (jm 379) 2524 = (.ifCond .ne 15, 3) := by rfl
theorem jI_379_2539 : jmI (jm 379) 2539 = (.goto 1201, 3) := by rfl
set_option maxRecDepth 100000 in
theorem jL_32_0 {d : Nat} {x0 x1 x2 x3 x4 : Int} (h_x0 : (-2147483648) ≤ x0 ∧ x0 ≤ 2147483647) (h_x1 : (-2147483648) ≤ x1 ∧ x1 ≤ (-1)) (h_x2 : (-2147483648) ≤ x2 ∧ x2 ≤ 2147483647) (h_x3 : (-2147483648) ≤ x3 ∧ x3 ≤ 2147483647) (h_x4 : (-2147483648) ≤ x4 ∧ x4 ≤ 2147483647) : jT [x0, x1, x2, x3, x4] (d + 3) 379 30 2474 [(5, (0, 0)), (4, (4, 3)), (3, (4, 2)), (2, (4, 1)), (1, (4, 0)), (0, (6, 0))] [] jpA_267 1 6 (fun k v hsN => k = 0 ∧ v = (0, 1)) := by
  refine jT_xaload_n (v := (4, 0)) (pcN := 2475) jI_379_2474 rfl rfl rfl ?_
  refine jT_xaload_n (v := (6, 0)) (pcN := 2476) jI_379_2475 rfl rfl rfl ?_
  refine jT_xiload (v := (0, 0)) (pcN := 2478) jI_379_2476 rfl rfl rfl ?_
  refine jT_xiconst (k := 1) (pcN := 2479) jI_379_2478 rfl ?_
  refine jT_xiadd (x := 0) (y := 1) (z := 1) (pcN := 2480) jI_379_2479 rfl (by decide) rfl ?_
  refine jT_adv 1 (pcN := 2481) (LN := [(5, (0, 0)), (4, (4, 3)), (3, (4, 2)), (2, (4, 1)), (1, (4, 0)), (0, (6, 0))]) (stN := [(0, x1), (4, 0)]) (hsN := jpA_267) (c1 := 0) (s1 := 0) (c2 := 1) (s2 := 6) (by exact rfl) ?_ (by omega) (by omega)
  refine jT_xaload_n (v := (6, 0)) (pcN := 2482) jI_379_2481 rfl rfl rfl ?_
  refine jT_xiload (v := (0, 0)) (pcN := 2484) jI_379_2482 rfl rfl rfl ?_
  refine jT_xiconst (k := 2) (pcN := 2485) jI_379_2484 rfl ?_
  refine jT_xiadd (x := 0) (y := 2) (z := 2) (pcN := 2486) jI_379_2485 rfl (by decide) rfl ?_
  refine jT_adv 1 (pcN := 2487) (LN := [(5, (0, 0)), (4, (4, 3)), (3, (4, 2)), (2, (4, 1)), (1, (4, 0)), (0, (6, 0))]) (stN := [(0, x2), (0, x1), (4, 0)]) (hsN := jpA_267) (c1 := 0) (s1 := 0) (c2 := 1) (s2 := 6) (by exact rfl) ?_ (by omega) (by omega)
  refine jT_xaload_n (v := (4, 2)) (pcN := 2488) jI_379_2487 rfl rfl rfl ?_
  refine jT_fR [0, 2, 4, 5, 6, 7, 8, 9, 10, 11, 12, 13, 14] 30 (y := 356) (pcN := 2491) (dC := 2) (bc1 := 1) (bc2 := 6) (c1 := 0) (c2 := 0) (as := [(4, 0), (0, x1), (0, x2), (4, 2)]) (asC := [(4, 0), (0, x1), (0, x2), (4, 1)]) (LN := [(5, (0, 0)), (4, (4, 3)), (3, (4, 2)), (2, (4, 1)), (1, (4, 0)), (0, (6, 0))]) (stN := []) (hsC := jpA_15) (v := (0, 1)) (st2 := [(0, 1)]) (jA_356_1037 (d := 0) (by omega) (by omega)) (by rfl) (by rfl) (by decide +kernel) (by rfl) (by rfl) (by omega) (by omega) (by omega) (by omega) rfl ?_
  refine jT_xistore (v := (0, 1)) (LN := [(6, (0, 1)), (5, (0, 0)), (4, (4, 3)), (3, (4, 2)), (2, (4, 1)), (1, (4, 0)), (0, (6, 0))]) (pcN := 2493) jI_379_2491 rfl rfl rfl rfl ?_
  refine jT_xaload_n (v := (4, 1)) (pcN := 2494) jI_379_2493 rfl rfl rfl ?_
  refine jT_xaload_n (v := (6, 0)) (pcN := 2495) jI_379_2494 rfl rfl rfl ?_
  refine jT_xiload (v := (0, 0)) (pcN := 2497) jI_379_2495 rfl rfl rfl ?_
  refine jT_xiconst (k := 1) (pcN := 2498) jI_379_2497 rfl ?_
  refine jT_xiadd (x := 0) (y := 1) (z := 1) (pcN := 2499) jI_379_2498 rfl (by decide) rfl ?_
  refine jT_adv 1 (pcN := 2500) (LN := [(6, (0, 1)), (5, (0, 0)), (4, (4, 3)), (3, (4, 2)), (2, (4, 1)), (1, (4, 0)), (0, (6, 0))]) (stN := [(0, x1), (4, 1)]) (hsN := jpA_267) (c1 := 0) (s1 := 0) (c2 := 0) (s2 := 0) (by exact rfl) ?_ (by omega) (by omega)
  refine jT_xaload_n (v := (6, 0)) (pcN := 2501) jI_379_2500 rfl rfl rfl ?_
  refine jT_xiload (v := (0, 0)) (pcN := 2503) jI_379_2501 rfl rfl rfl ?_
  refine jT_xiconst (k := 2) (pcN := 2504) jI_379_2503 rfl ?_
  refine jT_xiadd (x := 0) (y := 2) (z := 2) (pcN := 2505) jI_379_2504 rfl (by decide) rfl ?_
  refine jT_adv 1 (pcN := 2506) (LN := [(6, (0, 1)), (5, (0, 0)), (4, (4, 3)), (3, (4, 2)), (2, (4, 1)), (1, (4, 0)), (0, (6, 0))]) (stN := [(0, x2), (0, x1), (4, 1)]) (hsN := jpA_267) (c1 := 0) (s1 := 0) (c2 := 0) (s2 := 0) (by exact rfl) ?_ (by omega) (by omega)
  refine jT_fB [1, 15, 16, 17, 18, 19, 20, 21, 22, 23, 24, 25, 26, 27, 28, 29] 30 (y := 283) (pcN := 2509) (dC := 2) (bc1 := 0) (bc2 := 0) (c1 := 0) (c2 := 0) (as := [(4, 1), (0, x1), (0, x2)]) (asC := [(4, 0), (0, x1), (0, x2)]) (LN := [(6, (0, 1)), (5, (0, 0)), (4, (4, 3)), (3, (4, 2)), (2, (4, 1)), (1, (4, 0)), (0, (6, 0))]) (stN := []) (hsC := jpA_22) (hsD := jpA_20) (v := (0, 0)) (st2 := [(0, 0)]) (hs2 := jpA_306) (jA_283_1038 (d := 0) (by omega) (by omega)) (by rfl) (by rfl) (by decide +kernel) (by rfl) (by rfl) (by omega) (by omega) (by omega) (by omega) rfl (by decide +kernel) ?_
  refine jT_xistore (v := (0, 0)) (LN := [(7, (0, 0)), (6, (0, 1)), (5, (0, 0)), (4, (4, 3)), (3, (4, 2)), (2, (4, 1)), (1, (4, 0)), (0, (6, 0))]) (pcN := 2511) jI_379_2509 rfl rfl rfl rfl ?_
  refine jT_xaload_n (v := (4, 1)) (pcN := 2512) jI_379_2511 rfl rfl rfl ?_
  refine jT_fR [1, 15, 16, 17, 18, 19, 20, 21, 22, 23, 24, 25, 26, 27, 28, 29] 30 (y := 186) (pcN := 2515) (dC := 0) (bc1 := 0) (bc2 := 0) (c1 := 0) (c2 := 0) (as := [(4, 1)]) (asC := [(4, 0)]) (LN := [(7, (0, 0)), (6, (0, 1)), (5, (0, 0)), (4, (4, 3)), (3, (4, 2)), (2, (4, 1)), (1, (4, 0)), (0, (6, 0))]) (stN := []) (hsC := jpA_20) (v := (0, 1)) (st2 := [(0, 1)]) (jA_186_8 (d := 0)) (by rfl) (by rfl) (by decide +kernel) (by rfl) (by rfl) (by omega) (by omega) (by omega) (by omega) rfl ?_
  refine jT_xiload (v := (0, 1)) (pcN := 2517) jI_379_2515 rfl rfl rfl ?_
  refine jT_xicT (pcN := 2522) jI_379_2517 rfl (by decide +kernel) rfl ?_
  refine jT_xiload (v := (0, 1)) (pcN := 2524) jI_379_2522 rfl rfl rfl ?_
  refine jT_xifT (pcN := 2539) jI_379_2524 rfl (by decide +kernel) rfl ?_
  refine jT_xgoto (pcN := 3740) jI_379_2539 rfl ?_
  refine jT_xiinc (x := 0) (z := 5) (LN := [(5, (0, 5)), (7, (0, 0)), (6, (0, 1)), (4, (4, 3)), (3, (4, 2)), (2, (4, 1)), (1, (4, 0)), (0, (6, 0))]) (pcN := 3743) jI_379_3740 rfl rfl (by decide) rfl rfl ?_
  refine jT_xgoto (pcN := 28) jI_379_3743 rfl ?_
  refine jT_xiload (v := (0, 5)) (pcN := 30) jI_379_28 rfl rfl rfl ?_
  refine jT_xaload_n (v := (6, 0)) (pcN := 31) jI_379_30 rfl rfl rfl ?_
  refine jT_adv 1 (pcN := 32) (LN := [(5, (0, 5)), (7, (0, 0)), (6, (0, 1)), (4, (4, 3)), (3, (4, 2)), (2, (4, 1)), (1, (4, 0)), (0, (6, 0))]) (stN := [(0, 5), (0, 5)]) (hsN := jpA_306) (c1 := 0) (s1 := 0) (c2 := 0) (s2 := 0) (by exact rfl) ?_ (by omega) (by omega)
  refine jT_xiconst (k := 5) (pcN := 33) jI_379_32 rfl ?_
  refine jT_xisub (x := 5) (y := 5) (z := 0) (pcN := 34) jI_379_33 rfl (by decide) rfl ?_
  refine jT_xicT (pcN := 3746) jI_379_34 rfl (by decide +kernel) rfl ?_
  refine jT_xiconst (k := 1) (pcN := 3747) jI_379_3746 rfl ?_
  exact jT_ret rfl (by decide) (by show 30 ≤ 30; decide) (by omega) (by omega) ⟨rfl, rfl⟩
set_option maxRecDepth 100000 in
theorem jL_32_1 {d : Nat} {x0 x1 x2 x3 x4 : Int} (h_x0 : (-2147483648) ≤ x0 ∧ x0 ≤ 2147483647) (h_x1 : 0 ≤ x1 ∧ x1 ≤ 0) (h_x2 : (-2147483648) ≤ x2 ∧ x2 ≤ (-1)) (h_x3 : (-2147483648) ≤ x3 ∧ x3 ≤ 2147483647) (h_x4 : (-2147483648) ≤ x4 ∧ x4 ≤ 2147483647) : jT [x0, x1, x2, x3, x4] (d + 3) 379 41 2474 [(5, (0, 0)), (4, (4, 3)), (3, (4, 2)), (2, (4, 1)), (1, (4, 0)), (0, (6, 0))] [] jpA_1911 1 6 (fun k v hsN => k = 0 ∧ v = (0, 1)) := by
  refine jT_xaload_n (v := (4, 0)) (pcN := 2475) jI_379_2474 rfl rfl rfl ?_
  refine jT_xaload_n (v := (6, 0)) (pcN := 2476) jI_379_2475 rfl rfl rfl ?_
  refine jT_xiload (v := (0, 0)) (pcN := 2478) jI_379_2476 rfl rfl rfl ?_
  refine jT_xiconst (k := 1) (pcN := 2479) jI_379_2478 rfl ?_
  refine jT_xiadd (x := 0) (y := 1) (z := 1) (pcN := 2480) jI_379_2479 rfl (by decide) rfl ?_
  refine jT_adv 1 (pcN := 2481) (LN := [(5, (0, 0)), (4, (4, 3)), (3, (4, 2)), (2, (4, 1)), (1, (4, 0)), (0, (6, 0))]) (stN := [(0, x1), (4, 0)]) (hsN := jpA_1911) (c1 := 0) (s1 := 0) (c2 := 1) (s2 := 6) (by exact rfl) ?_ (by omega) (by omega)
  refine jT_eq (LN := [(5, (0, 0)), (4, (4, 3)), (3, (4, 2)), (2, (4, 1)), (1, (4, 0)), (0, (6, 0))]) (stN := [(0, 0), (4, 0)]) (hsN := [jzA_265, jzA_266, jgh, jgh, jgh, jgh, jgh, jgh, jgh, jgh, jgh, jgh, jgh, jgh, jzA_322, (100, [], jS0), jgh, jgh, jgh, jgh, jgh, jgh, jgh, jgh, jgh, jgh, jgh, jgh, jgh, jgh, jgh, (117, [], [35, 36, 37, 38]), jgh, jgh, jgh, (7, [(4, 39), (4, (-1)), (4, (-1))], []), jgh, jgh, jgh, (114, [], [40]), jgh]) (rfl) (by simp only [List.cons.injEq, Prod.mk.injEq, and_true, true_and] <;> ((try unfold jw); (try unfold jwl); omega)) (rfl) ?_
  refine jT_xaload_n (v := (6, 0)) (pcN := 2482) jI_379_2481 rfl rfl rfl ?_
  refine jT_xiload (v := (0, 0)) (pcN := 2484) jI_379_2482 rfl rfl rfl ?_
  refine jT_xiconst (k := 2) (pcN := 2485) jI_379_2484 rfl ?_
  refine jT_xiadd (x := 0) (y := 2) (z := 2) (pcN := 2486) jI_379_2485 rfl (by decide) rfl ?_
  refine jT_adv 1 (pcN := 2487) (LN := [(5, (0, 0)), (4, (4, 3)), (3, (4, 2)), (2, (4, 1)), (1, (4, 0)), (0, (6, 0))]) (stN := [(0, x2), (0, 0), (4, 0)]) (hsN := jpA_1911) (c1 := 0) (s1 := 0) (c2 := 1) (s2 := 6) (by exact rfl) ?_ (by omega) (by omega)
  refine jT_xaload_n (v := (4, 2)) (pcN := 2488) jI_379_2487 rfl rfl rfl ?_
  refine jT_fR [0, 2, 4, 5, 6, 7, 8, 9, 10, 11, 12, 13, 14, 30, 31, 32, 33, 34, 35, 36, 37, 38, 39, 40] 41 (y := 356) (pcN := 2491) (dC := 2) (bc1 := 1) (bc2 := 6) (c1 := 0) (c2 := 0) (as := [(4, 0), (0, 0), (0, x2), (4, 2)]) (asC := [(4, 0), (0, 0), (0, x2), (4, 1)]) (LN := [(5, (0, 0)), (4, (4, 3)), (3, (4, 2)), (2, (4, 1)), (1, (4, 0)), (0, (6, 0))]) (stN := []) (hsC := jpA_1806) (v := (0, 1)) (st2 := [(0, 1)]) (jA_356_1040 (d := 0) (by omega)) (by rfl) (by rfl) (by decide +kernel) (by rfl) (by rfl) (by omega) (by omega) (by omega) (by omega) rfl ?_
  refine jT_xistore (v := (0, 1)) (LN := [(6, (0, 1)), (5, (0, 0)), (4, (4, 3)), (3, (4, 2)), (2, (4, 1)), (1, (4, 0)), (0, (6, 0))]) (pcN := 2493) jI_379_2491 rfl rfl rfl rfl ?_
  refine jT_xaload_n (v := (4, 1)) (pcN := 2494) jI_379_2493 rfl rfl rfl ?_
  refine jT_xaload_n (v := (6, 0)) (pcN := 2495) jI_379_2494 rfl rfl rfl ?_
  refine jT_xiload (v := (0, 0)) (pcN := 2497) jI_379_2495 rfl rfl rfl ?_
  refine jT_xiconst (k := 1) (pcN := 2498) jI_379_2497 rfl ?_
  refine jT_xiadd (x := 0) (y := 1) (z := 1) (pcN := 2499) jI_379_2498 rfl (by decide) rfl ?_
  refine jT_adv 1 (pcN := 2500) (LN := [(6, (0, 1)), (5, (0, 0)), (4, (4, 3)), (3, (4, 2)), (2, (4, 1)), (1, (4, 0)), (0, (6, 0))]) (stN := [(0, x1), (4, 1)]) (hsN := jpA_1911) (c1 := 0) (s1 := 0) (c2 := 0) (s2 := 0) (by exact rfl) ?_ (by omega) (by omega)
  refine jT_eq (LN := [(6, (0, 1)), (5, (0, 0)), (4, (4, 3)), (3, (4, 2)), (2, (4, 1)), (1, (4, 0)), (0, (6, 0))]) (stN := [(0, 0), (4, 1)]) (hsN := [jzA_265, jzA_266, jgh, jgh, jgh, jgh, jgh, jgh, jgh, jgh, jgh, jgh, jgh, jgh, jzA_322, (100, [], jS0), jgh, jgh, jgh, jgh, jgh, jgh, jgh, jgh, jgh, jgh, jgh, jgh, jgh, jgh, jgh, (117, [], [35, 36, 37, 38]), jgh, jgh, jgh, (7, [(4, 39), (4, (-1)), (4, (-1))], []), jgh, jgh, jgh, (114, [], [40]), jgh]) (rfl) (by simp only [List.cons.injEq, Prod.mk.injEq, and_true, true_and] <;> ((try unfold jw); (try unfold jwl); omega)) (rfl) ?_
  refine jT_xaload_n (v := (6, 0)) (pcN := 2501) jI_379_2500 rfl rfl rfl ?_
  refine jT_xiload (v := (0, 0)) (pcN := 2503) jI_379_2501 rfl rfl rfl ?_
  refine jT_xiconst (k := 2) (pcN := 2504) jI_379_2503 rfl ?_
  refine jT_xiadd (x := 0) (y := 2) (z := 2) (pcN := 2505) jI_379_2504 rfl (by decide) rfl ?_
  refine jT_adv 1 (pcN := 2506) (LN := [(6, (0, 1)), (5, (0, 0)), (4, (4, 3)), (3, (4, 2)), (2, (4, 1)), (1, (4, 0)), (0, (6, 0))]) (stN := [(0, x2), (0, 0), (4, 1)]) (hsN := jpA_1911) (c1 := 0) (s1 := 0) (c2 := 0) (s2 := 0) (by exact rfl) ?_ (by omega) (by omega)
  refine jT_fB [1, 15, 16, 17, 18, 19, 20, 21, 22, 23, 24, 25, 26, 27, 28, 29] 41 (y := 283) (pcN := 2509) (dC := 2) (bc1 := 0) (bc2 := 0) (c1 := 0) (c2 := 0) (as := [(4, 1), (0, 0), (0, x2)]) (asC := [(4, 0), (0, 0), (0, x2)]) (LN := [(6, (0, 1)), (5, (0, 0)), (4, (4, 3)), (3, (4, 2)), (2, (4, 1)), (1, (4, 0)), (0, (6, 0))]) (stN := []) (hsC := jpA_1519) (hsD := jpA_1820) (v := (0, 0)) (st2 := [(0, 0)]) (hs2 := jpA_1912) (jA_283_1041 (d := 0) (by omega)) (by rfl) (by rfl) (by decide +kernel) (by rfl) (by rfl) (by omega) (by omega) (by omega) (by omega) rfl (by decide +kernel) ?_
  refine jT_xistore (v := (0, 0)) (LN := [(7, (0, 0)), (6, (0, 1)), (5, (0, 0)), (4, (4, 3)), (3, (4, 2)), (2, (4, 1)), (1, (4, 0)), (0, (6, 0))]) (pcN := 2511) jI_379_2509 rfl rfl rfl rfl ?_
  refine jT_xaload_n (v := (4, 1)) (pcN := 2512) jI_379_2511 rfl rfl rfl ?_
  refine jT_fR [1, 15, 16, 17, 18, 19, 20, 21, 22, 23, 24, 25, 26, 27, 28, 29] 41 (y := 186) (pcN := 2515) (dC := 0) (bc1 := 0) (bc2 := 0) (c1 := 0) (c2 := 0) (as := [(4, 1)]) (asC := [(4, 0)]) (LN := [(7, (0, 0)), (6, (0, 1)), (5, (0, 0)), (4, (4, 3)), (3, (4, 2)), (2, (4, 1)), (1, (4, 0)), (0, (6, 0))]) (stN := []) (hsC := jpA_20) (v := (0, 1)) (st2 := [(0, 1)]) (jA_186_8 (d := 0)) (by rfl) (by rfl) (by decide +kernel) (by rfl) (by rfl) (by omega) (by omega) (by omega) (by omega) rfl ?_
  refine jT_xiload (v := (0, 1)) (pcN := 2517) jI_379_2515 rfl rfl rfl ?_
  refine jT_xicT (pcN := 2522) jI_379_2517 rfl (by decide +kernel) rfl ?_
  refine jT_xiload (v := (0, 1)) (pcN := 2524) jI_379_2522 rfl rfl rfl ?_
  refine jT_xifT (pcN := 2539) jI_379_2524 rfl (by decide +kernel) rfl ?_
  refine jT_xgoto (pcN := 3740) jI_379_2539 rfl ?_
  refine jT_xiinc (x := 0) (z := 5) (LN := [(5, (0, 5)), (7, (0, 0)), (6, (0, 1)), (4, (4, 3)), (3, (4, 2)), (2, (4, 1)), (1, (4, 0)), (0, (6, 0))]) (pcN := 3743) jI_379_3740 rfl rfl (by decide) rfl rfl ?_
  refine jT_xgoto (pcN := 28) jI_379_3743 rfl ?_
  refine jT_xiload (v := (0, 5)) (pcN := 30) jI_379_28 rfl rfl rfl ?_
  refine jT_xaload_n (v := (6, 0)) (pcN := 31) jI_379_30 rfl rfl rfl ?_
  refine jT_adv 1 (pcN := 32) (LN := [(5, (0, 5)), (7, (0, 0)), (6, (0, 1)), (4, (4, 3)), (3, (4, 2)), (2, (4, 1)), (1, (4, 0)), (0, (6, 0))]) (stN := [(0, 5), (0, 5)]) (hsN := jpA_1912) (c1 := 0) (s1 := 0) (c2 := 0) (s2 := 0) (by exact rfl) ?_ (by omega) (by omega)
  refine jT_xiconst (k := 5) (pcN := 33) jI_379_32 rfl ?_
  refine jT_xisub (x := 5) (y := 5) (z := 0) (pcN := 34) jI_379_33 rfl (by decide) rfl ?_
  refine jT_xicT (pcN := 3746) jI_379_34 rfl (by decide +kernel) rfl ?_
  refine jT_xiconst (k := 1) (pcN := 3747) jI_379_3746 rfl ?_
  exact jT_ret rfl (by decide) (by show 41 ≤ 41; decide) (by omega) (by omega) ⟨rfl, rfl⟩
def jpA_3877 : List JC := [jzA_265, jzA_266, (101, [], [0]), jgh, (8, [(4, 30), (4, 31)], []), jgh, jgh, jgh, jgh, jgh, jgh, jgh, jgh, jgh, jzA_721, (100, [], jS0), jgh, jgh, jgh, jgh, jgh, (101, [], [0, 0, 0, 0, 0, 0]), (100, [], (List.replicate 1792 0)), jgh, jgh, jgh, jgh, jgh, jgh, jgh, jgh, (101, [], [0, 0, 0, 0, 0, 0]), jgh, (117, [], [37, 38, 39, 40]), jgh, jgh, jgh, (7, [(4, 41), (4, 45), (4, 50)], []), jgh, jgh, jgh, (114, [], [42]), (4, [(4, 43), (1, 1)], []), (101, [], [0, 0, 0, 0, 0, 0]), (114, [], [49]), (114, [], [49]), (101, [], [0, 0, 0, 0, 0, 0]), (4, [(4, 46), (1, 1)], []), (101, [], [1, 0, 0, 0, 0, 0]), (4, [(4, 48), (1, 1)], []), (100, [], [0])]
def jpA_3878 : List JC := [jzA_265, jzA_3804, (101, [], [0]), jgh, (8, [(4, 30), (4, 31)], []), jgh, jgh, jgh, jgh, jgh, jgh, jgh, jgh, jgh, jzA_721, (100, [], jS0), jgh, jgh, jgh, jgh, jgh, (101, [], [1, 0, 0, 0, 0, 0]), jzA_3760, jgh, jgh, jgh, jgh, jgh, jgh, jgh, jgh, (101, [], [0, 0, 0, 0, 0, 0]), jgh, (117, [], [37, 38, 39, 40]), jgh, jgh, jgh, (7, [(4, 41), (4, 45), (4, 50)], []), jgh, jgh, jgh, (114, [], [42]), (4, [(4, 43), (1, 1)], []), (101, [], [0, 0, 0, 0, 0, 0]), (114, [], [49]), (114, [], [49]), (101, [], [0, 0, 0, 0, 0, 0]), (4, [(4, 46), (1, 1)], []), (101, [], [1, 0, 0, 0, 0, 0]), (4, [(4, 48), (1, 1)], []), (100, [], [0])]
theorem jI_379_2527 : jmI (jm 379) 2527 = (.aload_n 3, 1) := by rfl
theorem jI_379_2528 : jmI (jm 379) 2528 = (.iconst 0, 1) := by rfl
theorem jI_379_2529 : jmI (jm 379) 2529 = (.laload, 1) := by rfl
theorem jI_379_2530 : jmI (jm 379) 2530 = (.iload 7, 2) := by rfl
theorem jI_379_2532 : jmI (jm 379) 2532 = (.i2l, 1) := by rfl
theorem jI_379_2534 : jmI (jm 379) 2534 = (.ifCond .eq 5, 3) := by rfl
set_option maxRecDepth 100000 in
theorem jL_32_2 {d : Nat} {x0 x1 x2 x3 x4 : Int} (h_x0 : (-2147483648) ≤ x0 ∧ x0 ≤ 2147483647) (h_x1 : 0 ≤ x1 ∧ x1 ≤ 0) (h_x2 : 0 ≤ x2 ∧ x2 ≤ 0) (h_x3 : (-2147483648) ≤ x3 ∧ x3 ≤ 2147483647) (h_x4 : (-2147483648) ≤ x4 ∧ x4 ≤ 2147483647) : jT [x0, x1, x2, x3, x4] (d + 8) 379 44 2474 [(5, (0, 0)), (4, (4, 3)), (3, (4, 2)), (2, (4, 1)), (1, (4, 0)), (0, (6, 0))] [] jpA_3802 7 19 (fun k v hsN => k = 0 ∧ v = (0, 1)) := by
  refine jT_xaload_n (v := (4, 0)) (pcN := 2475) jI_379_2474 rfl rfl rfl ?_
  refine jT_xaload_n (v := (6, 0)) (pcN := 2476) jI_379_2475 rfl rfl rfl ?_
  refine jT_xiload (v := (0, 0)) (pcN := 2478) jI_379_2476 rfl rfl rfl ?_
  refine jT_xiconst (k := 1) (pcN := 2479) jI_379_2478 rfl ?_
  refine jT_xiadd (x := 0) (y := 1) (z := 1) (pcN := 2480) jI_379_2479 rfl (by decide) rfl ?_
  refine jT_adv 1 (pcN := 2481) (LN := [(5, (0, 0)), (4, (4, 3)), (3, (4, 2)), (2, (4, 1)), (1, (4, 0)), (0, (6, 0))]) (stN := [(0, x1), (4, 0)]) (hsN := jpA_3802) (c1 := 0) (s1 := 0) (c2 := 7) (s2 := 19) (by exact rfl) ?_ (by omega) (by omega)
  refine jT_eq (LN := [(5, (0, 0)), (4, (4, 3)), (3, (4, 2)), (2, (4, 1)), (1, (4, 0)), (0, (6, 0))]) (stN := [(0, 0), (4, 0)]) (hsN := [jzA_265, jzA_266, (101, [], [0]), jgh, (8, [(4, 30), (4, 31)], []), jgh, jgh, jgh, jgh, jgh, jgh, jgh, jgh, jgh, jzA_721, (100, [], jS0), jgh, jgh, jgh, jgh, jgh, (101, [], [0, 0, 0, 0, 0, 0]), (100, [], (List.replicate 1792 0)), jgh, jgh, jgh, jgh, jgh, jgh, jgh, jgh, (101, [], [0, 0, 0, 0, 0, 0]), jgh, (117, [], [37, 38, 39, 40]), jgh, jgh, jgh, (7, [(4, 41), (4, (-1)), (4, (-1))], []), jgh, jgh, jgh, (114, [], [42]), (4, [(4, 43), (1, 1)], []), (101, [], [0, 0, 0, 0, 0, 0])]) (rfl) (by simp only [List.cons.injEq, Prod.mk.injEq, and_true, true_and] <;> ((try unfold jw); (try unfold jwl); omega)) (rfl) ?_
  refine jT_xaload_n (v := (6, 0)) (pcN := 2482) jI_379_2481 rfl rfl rfl ?_
  refine jT_xiload (v := (0, 0)) (pcN := 2484) jI_379_2482 rfl rfl rfl ?_
  refine jT_xiconst (k := 2) (pcN := 2485) jI_379_2484 rfl ?_
  refine jT_xiadd (x := 0) (y := 2) (z := 2) (pcN := 2486) jI_379_2485 rfl (by decide) rfl ?_
  refine jT_adv 1 (pcN := 2487) (LN := [(5, (0, 0)), (4, (4, 3)), (3, (4, 2)), (2, (4, 1)), (1, (4, 0)), (0, (6, 0))]) (stN := [(0, x2), (0, 0), (4, 0)]) (hsN := jpA_3802) (c1 := 0) (s1 := 0) (c2 := 7) (s2 := 19) (by exact rfl) ?_ (by omega) (by omega)
  refine jT_eq (LN := [(5, (0, 0)), (4, (4, 3)), (3, (4, 2)), (2, (4, 1)), (1, (4, 0)), (0, (6, 0))]) (stN := [(0, 0), (0, 0), (4, 0)]) (hsN := [jzA_265, jzA_266, (101, [], [0]), jgh, (8, [(4, 30), (4, 31)], []), jgh, jgh, jgh, jgh, jgh, jgh, jgh, jgh, jgh, jzA_721, (100, [], jS0), jgh, jgh, jgh, jgh, jgh, (101, [], [0, 0, 0, 0, 0, 0]), (100, [], (List.replicate 1792 0)), jgh, jgh, jgh, jgh, jgh, jgh, jgh, jgh, (101, [], [0, 0, 0, 0, 0, 0]), jgh, (117, [], [37, 38, 39, 40]), jgh, jgh, jgh, (7, [(4, 41), (4, (-1)), (4, (-1))], []), jgh, jgh, jgh, (114, [], [42]), (4, [(4, 43), (1, 1)], []), (101, [], [0, 0, 0, 0, 0, 0])]) (rfl) (by simp only [List.cons.injEq, Prod.mk.injEq, and_true, true_and] <;> ((try unfold jw); (try unfold jwl); omega)) (rfl) ?_
  refine jT_xaload_n (v := (4, 2)) (pcN := 2488) jI_379_2487 rfl rfl rfl ?_
  refine jT_fB [0, 2, 4, 5, 6, 7, 8, 9, 10, 11, 12, 13, 14, 30, 31, 32, 33, 34, 35, 36, 37, 38, 39, 40, 41, 42, 43] 44 (y := 356) (pcN := 2491) (dC := 7) (bc1 := 7) (bc2 := 19) (c1 := 0) (c2 := 0) (as := [(4, 0), (0, 0), (0, 0), (4, 2)]) (asC := [(4, 0), (0, 0), (0, 0), (4, 1)]) (LN := [(5, (0, 0)), (4, (4, 3)), (3, (4, 2)), (2, (4, 1)), (1, (4, 0)), (0, (6, 0))]) (stN := []) (hsC := jpA_3744) (hsD := jpA_3745) (v := (0, 0)) (st2 := [(0, 0)]) (hs2 := jpA_3877) (jA_356_1043 (d := 0)) (by rfl) (by rfl) (by decide +kernel) (by rfl) (by rfl) (by omega) (by omega) (by omega) (by omega) rfl (by decide +kernel) ?_
  refine jT_xistore (v := (0, 0)) (LN := [(6, (0, 0)), (5, (0, 0)), (4, (4, 3)), (3, (4, 2)), (2, (4, 1)), (1, (4, 0)), (0, (6, 0))]) (pcN := 2493) jI_379_2491 rfl rfl rfl rfl ?_
  refine jT_xaload_n (v := (4, 1)) (pcN := 2494) jI_379_2493 rfl rfl rfl ?_
  refine jT_xaload_n (v := (6, 0)) (pcN := 2495) jI_379_2494 rfl rfl rfl ?_
  refine jT_xiload (v := (0, 0)) (pcN := 2497) jI_379_2495 rfl rfl rfl ?_
  refine jT_xiconst (k := 1) (pcN := 2498) jI_379_2497 rfl ?_
  refine jT_xiadd (x := 0) (y := 1) (z := 1) (pcN := 2499) jI_379_2498 rfl (by decide) rfl ?_
  refine jT_adv 1 (pcN := 2500) (LN := [(6, (0, 0)), (5, (0, 0)), (4, (4, 3)), (3, (4, 2)), (2, (4, 1)), (1, (4, 0)), (0, (6, 0))]) (stN := [(0, x1), (4, 1)]) (hsN := jpA_3877) (c1 := 0) (s1 := 0) (c2 := 0) (s2 := 0) (by exact rfl) ?_ (by omega) (by omega)
  refine jT_eq (LN := [(6, (0, 0)), (5, (0, 0)), (4, (4, 3)), (3, (4, 2)), (2, (4, 1)), (1, (4, 0)), (0, (6, 0))]) (stN := [(0, 0), (4, 1)]) (hsN := [jzA_265, jzA_266, (101, [], [0]), jgh, (8, [(4, 30), (4, 31)], []), jgh, jgh, jgh, jgh, jgh, jgh, jgh, jgh, jgh, jzA_721, (100, [], jS0), jgh, jgh, jgh, jgh, jgh, (101, [], [0, 0, 0, 0, 0, 0]), (100, [], (List.replicate 1792 0)), jgh, jgh, jgh, jgh, jgh, jgh, jgh, jgh, (101, [], [0, 0, 0, 0, 0, 0]), jgh, (117, [], [37, 38, 39, 40]), jgh, jgh, jgh, (7, [(4, 41), (4, 45), (4, 50)], []), jgh, jgh, jgh, (114, [], [42]), (4, [(4, 43), (1, 1)], []), (101, [], [0, 0, 0, 0, 0, 0]), (114, [], [49]), (114, [], [49]), (101, [], [0, 0, 0, 0, 0, 0]), (4, [(4, 46), (1, 1)], []), (101, [], [1, 0, 0, 0, 0, 0]), (4, [(4, 48), (1, 1)], []), (100, [], [0])]) (rfl) (by simp only [List.cons.injEq, Prod.mk.injEq, and_true, true_and] <;> ((try unfold jw); (try unfold jwl); omega)) (rfl) ?_
  refine jT_xaload_n (v := (6, 0)) (pcN := 2501) jI_379_2500 rfl rfl rfl ?_
  refine jT_xiload (v := (0, 0)) (pcN := 2503) jI_379_2501 rfl rfl rfl ?_
  refine jT_xiconst (k := 2) (pcN := 2504) jI_379_2503 rfl ?_
  refine jT_xiadd (x := 0) (y := 2) (z := 2) (pcN := 2505) jI_379_2504 rfl (by decide) rfl ?_
  refine jT_adv 1 (pcN := 2506) (LN := [(6, (0, 0)), (5, (0, 0)), (4, (4, 3)), (3, (4, 2)), (2, (4, 1)), (1, (4, 0)), (0, (6, 0))]) (stN := [(0, x2), (0, 0), (4, 1)]) (hsN := jpA_3877) (c1 := 0) (s1 := 0) (c2 := 0) (s2 := 0) (by exact rfl) ?_ (by omega) (by omega)
  refine jT_eq (LN := [(6, (0, 0)), (5, (0, 0)), (4, (4, 3)), (3, (4, 2)), (2, (4, 1)), (1, (4, 0)), (0, (6, 0))]) (stN := [(0, 0), (0, 0), (4, 1)]) (hsN := [jzA_265, jzA_266, (101, [], [0]), jgh, (8, [(4, 30), (4, 31)], []), jgh, jgh, jgh, jgh, jgh, jgh, jgh, jgh, jgh, jzA_721, (100, [], jS0), jgh, jgh, jgh, jgh, jgh, (101, [], [0, 0, 0, 0, 0, 0]), (100, [], (List.replicate 1792 0)), jgh, jgh, jgh, jgh, jgh, jgh, jgh, jgh, (101, [], [0, 0, 0, 0, 0, 0]), jgh, (117, [], [37, 38, 39, 40]), jgh, jgh, jgh, (7, [(4, 41), (4, 45), (4, 50)], []), jgh, jgh, jgh, (114, [], [42]), (4, [(4, 43), (1, 1)], []), (101, [], [0, 0, 0, 0, 0, 0]), (114, [], [49]), (114, [], [49]), (101, [], [0, 0, 0, 0, 0, 0]), (4, [(4, 46), (1, 1)], []), (101, [], [1, 0, 0, 0, 0, 0]), (4, [(4, 48), (1, 1)], []), (100, [], [0])]) (rfl) (by simp only [List.cons.injEq, Prod.mk.injEq, and_true, true_and] <;> ((try unfold jw); (try unfold jwl); omega)) (rfl) ?_
  refine jT_fB [1, 15, 16, 17, 18, 19, 20, 21, 22, 23, 24, 25, 26, 27, 28, 29] 51 (y := 283) (pcN := 2509) (dC := 6) (bc1 := 0) (bc2 := 0) (c1 := 0) (c2 := 0) (as := [(4, 1), (0, 0), (0, 0)]) (asC := [(4, 0), (0, 0), (0, 0)]) (LN := [(6, (0, 0)), (5, (0, 0)), (4, (4, 3)), (3, (4, 2)), (2, (4, 1)), (1, (4, 0)), (0, (6, 0))]) (stN := []) (hsC := jpA_1840) (hsD := jpA_3766) (v := (0, 0)) (st2 := [(0, 0)]) (hs2 := jpA_3878) (jA_283_1050 (d := 0)) (by rfl) (by rfl) (by decide +kernel) (by rfl) (by rfl) (by omega) (by omega) (by omega) (by omega) rfl (by decide +kernel) ?_
  refine jT_xistore (v := (0, 0)) (LN := [(7, (0, 0)), (6, (0, 0)), (5, (0, 0)), (4, (4, 3)), (3, (4, 2)), (2, (4, 1)), (1, (4, 0)), (0, (6, 0))]) (pcN := 2511) jI_379_2509 rfl rfl rfl rfl ?_
  refine jT_xaload_n (v := (4, 1)) (pcN := 2512) jI_379_2511 rfl rfl rfl ?_
  refine jT_fR [1, 15, 16, 17, 18, 19, 20, 21, 22, 23, 24, 25, 26, 27, 28, 29] 51 (y := 186) (pcN := 2515) (dC := 0) (bc1 := 0) (bc2 := 0) (c1 := 0) (c2 := 0) (as := [(4, 1)]) (asC := [(4, 0)]) (LN := [(7, (0, 0)), (6, (0, 0)), (5, (0, 0)), (4, (4, 3)), (3, (4, 2)), (2, (4, 1)), (1, (4, 0)), (0, (6, 0))]) (stN := []) (hsC := jpA_3767) (v := (0, 0)) (st2 := [(0, 0)]) (jA_186_1020 (d := 0)) (by rfl) (by rfl) (by decide +kernel) (by rfl) (by rfl) (by omega) (by omega) (by omega) (by omega) rfl ?_
  refine jT_xiload (v := (0, 0)) (pcN := 2517) jI_379_2515 rfl rfl rfl ?_
  refine jT_xicT (pcN := 2522) jI_379_2517 rfl (by decide +kernel) rfl ?_
  refine jT_xiload (v := (0, 0)) (pcN := 2524) jI_379_2522 rfl rfl rfl ?_
  refine jT_xifF (t := 2539) (pcN := 2527) jI_379_2524 rfl (by decide +kernel) rfl rfl ?_
  refine jT_xaload_n (v := (4, 2)) (pcN := 2528) jI_379_2527 rfl rfl rfl ?_
  refine jT_xiconst (k := 0) (pcN := 2529) jI_379_2528 rfl ?_
  refine jT_lald (x := 0) (a := 2) (j := 0) (fs := []) (X := [0]) jI_379_2529 rfl rfl rfl rfl ?_
  refine jT_eq (LN := [(7, (0, 0)), (6, (0, 0)), (5, (0, 0)), (4, (4, 3)), (3, (4, 2)), (2, (4, 1)), (1, (4, 0)), (0, (6, 0))]) (stN := [(1, 0)]) (hsN := jpA_3878) rfl rfl rfl ?_
  refine jT_xiload (v := (0, 0)) (pcN := 2532) jI_379_2530 rfl rfl rfl ?_
  refine jT_xi2l (x := 0) (z := 0) (pcN := 2533) jI_379_2532 rfl (by decide +kernel) rfl ?_
  refine jT_lcmp (a := 0) (b := 0) (z := 0) (by rfl) (by rfl) (by decide +kernel) (by decide +kernel) (by decide) ?_
  refine jT_xifT (pcN := 2539) jI_379_2534 rfl (by decide +kernel) rfl ?_
  refine jT_xgoto (pcN := 3740) jI_379_2539 rfl ?_
  refine jT_xiinc (x := 0) (z := 5) (LN := [(5, (0, 5)), (7, (0, 0)), (6, (0, 0)), (4, (4, 3)), (3, (4, 2)), (2, (4, 1)), (1, (4, 0)), (0, (6, 0))]) (pcN := 3743) jI_379_3740 rfl rfl (by decide) rfl rfl ?_
  refine jT_xgoto (pcN := 28) jI_379_3743 rfl ?_
  refine jT_xiload (v := (0, 5)) (pcN := 30) jI_379_28 rfl rfl rfl ?_
  refine jT_xaload_n (v := (6, 0)) (pcN := 31) jI_379_30 rfl rfl rfl ?_
  refine jT_adv 1 (pcN := 32) (LN := [(5, (0, 5)), (7, (0, 0)), (6, (0, 0)), (4, (4, 3)), (3, (4, 2)), (2, (4, 1)), (1, (4, 0)), (0, (6, 0))]) (stN := [(0, 5), (0, 5)]) (hsN := jpA_3878) (c1 := 0) (s1 := 0) (c2 := 0) (s2 := 0) (by exact rfl) ?_ (by omega) (by omega)
  refine jT_xiconst (k := 5) (pcN := 33) jI_379_32 rfl ?_
  refine jT_xisub (x := 5) (y := 5) (z := 0) (pcN := 34) jI_379_33 rfl (by decide) rfl ?_
  refine jT_xicT (pcN := 3746) jI_379_34 rfl (by decide +kernel) rfl ?_
  refine jT_xiconst (k := 1) (pcN := 3747) jI_379_3746 rfl ?_
  exact jT_ret rfl (by decide) (by show 44 ≤ 51; decide) (by omega) (by omega) ⟨rfl, rfl⟩
set_option maxRecDepth 100000 in
theorem jL_32_3 {d : Nat} {x0 x1 x2 x3 x4 : Int} (h_x0 : (-2147483648) ≤ x0 ∧ x0 ≤ 2147483647) (h_x1 : 0 ≤ x1 ∧ x1 ≤ 0) (h_x2 : 1 ≤ x2 ∧ x2 ≤ 2147483647) (h_x3 : (-2147483648) ≤ x3 ∧ x3 ≤ 2147483647) (h_x4 : (-2147483648) ≤ x4 ∧ x4 ≤ 2147483647) : jT [x0, x1, x2, x3, x4] (d + 3) 379 41 2474 [(5, (0, 0)), (4, (4, 3)), (3, (4, 2)), (2, (4, 1)), (1, (4, 0)), (0, (6, 0))] [] jpA_1911 1 6 (fun k v hsN => k = 0 ∧ v = (0, 1)) := by
  refine jT_xaload_n (v := (4, 0)) (pcN := 2475) jI_379_2474 rfl rfl rfl ?_
  refine jT_xaload_n (v := (6, 0)) (pcN := 2476) jI_379_2475 rfl rfl rfl ?_
  refine jT_xiload (v := (0, 0)) (pcN := 2478) jI_379_2476 rfl rfl rfl ?_
  refine jT_xiconst (k := 1) (pcN := 2479) jI_379_2478 rfl ?_
  refine jT_xiadd (x := 0) (y := 1) (z := 1) (pcN := 2480) jI_379_2479 rfl (by decide) rfl ?_
  refine jT_adv 1 (pcN := 2481) (LN := [(5, (0, 0)), (4, (4, 3)), (3, (4, 2)), (2, (4, 1)), (1, (4, 0)), (0, (6, 0))]) (stN := [(0, x1), (4, 0)]) (hsN := jpA_1911) (c1 := 0) (s1 := 0) (c2 := 1) (s2 := 6) (by exact rfl) ?_ (by omega) (by omega)
  refine jT_eq (LN := [(5, (0, 0)), (4, (4, 3)), (3, (4, 2)), (2, (4, 1)), (1, (4, 0)), (0, (6, 0))]) (stN := [(0, 0), (4, 0)]) (hsN := [jzA_265, jzA_266, jgh, jgh, jgh, jgh, jgh, jgh, jgh, jgh, jgh, jgh, jgh, jgh, jzA_322, (100, [], jS0), jgh, jgh, jgh, jgh, jgh, jgh, jgh, jgh, jgh, jgh, jgh, jgh, jgh, jgh, jgh, (117, [], [35, 36, 37, 38]), jgh, jgh, jgh, (7, [(4, 39), (4, (-1)), (4, (-1))], []), jgh, jgh, jgh, (114, [], [40]), jgh]) (rfl) (by simp only [List.cons.injEq, Prod.mk.injEq, and_true, true_and] <;> ((try unfold jw); (try unfold jwl); omega)) (rfl) ?_
  refine jT_xaload_n (v := (6, 0)) (pcN := 2482) jI_379_2481 rfl rfl rfl ?_
  refine jT_xiload (v := (0, 0)) (pcN := 2484) jI_379_2482 rfl rfl rfl ?_
  refine jT_xiconst (k := 2) (pcN := 2485) jI_379_2484 rfl ?_
  refine jT_xiadd (x := 0) (y := 2) (z := 2) (pcN := 2486) jI_379_2485 rfl (by decide) rfl ?_
  refine jT_adv 1 (pcN := 2487) (LN := [(5, (0, 0)), (4, (4, 3)), (3, (4, 2)), (2, (4, 1)), (1, (4, 0)), (0, (6, 0))]) (stN := [(0, x2), (0, 0), (4, 0)]) (hsN := jpA_1911) (c1 := 0) (s1 := 0) (c2 := 1) (s2 := 6) (by exact rfl) ?_ (by omega) (by omega)
  refine jT_xaload_n (v := (4, 2)) (pcN := 2488) jI_379_2487 rfl rfl rfl ?_
  refine jT_fR [0, 2, 4, 5, 6, 7, 8, 9, 10, 11, 12, 13, 14, 30, 31, 32, 33, 34, 35, 36, 37, 38, 39, 40] 41 (y := 356) (pcN := 2491) (dC := 2) (bc1 := 1) (bc2 := 6) (c1 := 0) (c2 := 0) (as := [(4, 0), (0, 0), (0, x2), (4, 2)]) (asC := [(4, 0), (0, 0), (0, x2), (4, 1)]) (LN := [(5, (0, 0)), (4, (4, 3)), (3, (4, 2)), (2, (4, 1)), (1, (4, 0)), (0, (6, 0))]) (stN := []) (hsC := jpA_1806) (v := (0, 1)) (st2 := [(0, 1)]) (jA_356_1052 (d := 0) (by omega)) (by rfl) (by rfl) (by decide +kernel) (by rfl) (by rfl) (by omega) (by omega) (by omega) (by omega) rfl ?_
  refine jT_xistore (v := (0, 1)) (LN := [(6, (0, 1)), (5, (0, 0)), (4, (4, 3)), (3, (4, 2)), (2, (4, 1)), (1, (4, 0)), (0, (6, 0))]) (pcN := 2493) jI_379_2491 rfl rfl rfl rfl ?_
  refine jT_xaload_n (v := (4, 1)) (pcN := 2494) jI_379_2493 rfl rfl rfl ?_
  refine jT_xaload_n (v := (6, 0)) (pcN := 2495) jI_379_2494 rfl rfl rfl ?_
  refine jT_xiload (v := (0, 0)) (pcN := 2497) jI_379_2495 rfl rfl rfl ?_
  refine jT_xiconst (k := 1) (pcN := 2498) jI_379_2497 rfl ?_
  refine jT_xiadd (x := 0) (y := 1) (z := 1) (pcN := 2499) jI_379_2498 rfl (by decide) rfl ?_
  refine jT_adv 1 (pcN := 2500) (LN := [(6, (0, 1)), (5, (0, 0)), (4, (4, 3)), (3, (4, 2)), (2, (4, 1)), (1, (4, 0)), (0, (6, 0))]) (stN := [(0, x1), (4, 1)]) (hsN := jpA_1911) (c1 := 0) (s1 := 0) (c2 := 0) (s2 := 0) (by exact rfl) ?_ (by omega) (by omega)
  refine jT_eq (LN := [(6, (0, 1)), (5, (0, 0)), (4, (4, 3)), (3, (4, 2)), (2, (4, 1)), (1, (4, 0)), (0, (6, 0))]) (stN := [(0, 0), (4, 1)]) (hsN := [jzA_265, jzA_266, jgh, jgh, jgh, jgh, jgh, jgh, jgh, jgh, jgh, jgh, jgh, jgh, jzA_322, (100, [], jS0), jgh, jgh, jgh, jgh, jgh, jgh, jgh, jgh, jgh, jgh, jgh, jgh, jgh, jgh, jgh, (117, [], [35, 36, 37, 38]), jgh, jgh, jgh, (7, [(4, 39), (4, (-1)), (4, (-1))], []), jgh, jgh, jgh, (114, [], [40]), jgh]) (rfl) (by simp only [List.cons.injEq, Prod.mk.injEq, and_true, true_and] <;> ((try unfold jw); (try unfold jwl); omega)) (rfl) ?_
  refine jT_xaload_n (v := (6, 0)) (pcN := 2501) jI_379_2500 rfl rfl rfl ?_
  refine jT_xiload (v := (0, 0)) (pcN := 2503) jI_379_2501 rfl rfl rfl ?_
  refine jT_xiconst (k := 2) (pcN := 2504) jI_379_2503 rfl ?_
  refine jT_xiadd (x := 0) (y := 2) (z := 2) (pcN := 2505) jI_379_2504 rfl (by decide) rfl ?_
  refine jT_adv 1 (pcN := 2506) (LN := [(6, (0, 1)), (5, (0, 0)), (4, (4, 3)), (3, (4, 2)), (2, (4, 1)), (1, (4, 0)), (0, (6, 0))]) (stN := [(0, x2), (0, 0), (4, 1)]) (hsN := jpA_1911) (c1 := 0) (s1 := 0) (c2 := 0) (s2 := 0) (by exact rfl) ?_ (by omega) (by omega)
  refine jT_fB [1, 15, 16, 17, 18, 19, 20, 21, 22, 23, 24, 25, 26, 27, 28, 29] 41 (y := 283) (pcN := 2509) (dC := 2) (bc1 := 0) (bc2 := 0) (c1 := 0) (c2 := 0) (as := [(4, 1), (0, 0), (0, x2)]) (asC := [(4, 0), (0, 0), (0, x2)]) (LN := [(6, (0, 1)), (5, (0, 0)), (4, (4, 3)), (3, (4, 2)), (2, (4, 1)), (1, (4, 0)), (0, (6, 0))]) (stN := []) (hsC := jpA_1519) (hsD := jpA_1820) (v := (0, 0)) (st2 := [(0, 0)]) (hs2 := jpA_1912) (jA_283_1053 (d := 0) (by omega)) (by rfl) (by rfl) (by decide +kernel) (by rfl) (by rfl) (by omega) (by omega) (by omega) (by omega) rfl (by decide +kernel) ?_
  refine jT_xistore (v := (0, 0)) (LN := [(7, (0, 0)), (6, (0, 1)), (5, (0, 0)), (4, (4, 3)), (3, (4, 2)), (2, (4, 1)), (1, (4, 0)), (0, (6, 0))]) (pcN := 2511) jI_379_2509 rfl rfl rfl rfl ?_
  refine jT_xaload_n (v := (4, 1)) (pcN := 2512) jI_379_2511 rfl rfl rfl ?_
  refine jT_fR [1, 15, 16, 17, 18, 19, 20, 21, 22, 23, 24, 25, 26, 27, 28, 29] 41 (y := 186) (pcN := 2515) (dC := 0) (bc1 := 0) (bc2 := 0) (c1 := 0) (c2 := 0) (as := [(4, 1)]) (asC := [(4, 0)]) (LN := [(7, (0, 0)), (6, (0, 1)), (5, (0, 0)), (4, (4, 3)), (3, (4, 2)), (2, (4, 1)), (1, (4, 0)), (0, (6, 0))]) (stN := []) (hsC := jpA_20) (v := (0, 1)) (st2 := [(0, 1)]) (jA_186_8 (d := 0)) (by rfl) (by rfl) (by decide +kernel) (by rfl) (by rfl) (by omega) (by omega) (by omega) (by omega) rfl ?_
  refine jT_xiload (v := (0, 1)) (pcN := 2517) jI_379_2515 rfl rfl rfl ?_
  refine jT_xicT (pcN := 2522) jI_379_2517 rfl (by decide +kernel) rfl ?_
  refine jT_xiload (v := (0, 1)) (pcN := 2524) jI_379_2522 rfl rfl rfl ?_
  refine jT_xifT (pcN := 2539) jI_379_2524 rfl (by decide +kernel) rfl ?_
  refine jT_xgoto (pcN := 3740) jI_379_2539 rfl ?_
  refine jT_xiinc (x := 0) (z := 5) (LN := [(5, (0, 5)), (7, (0, 0)), (6, (0, 1)), (4, (4, 3)), (3, (4, 2)), (2, (4, 1)), (1, (4, 0)), (0, (6, 0))]) (pcN := 3743) jI_379_3740 rfl rfl (by decide) rfl rfl ?_
  refine jT_xgoto (pcN := 28) jI_379_3743 rfl ?_
  refine jT_xiload (v := (0, 5)) (pcN := 30) jI_379_28 rfl rfl rfl ?_
  refine jT_xaload_n (v := (6, 0)) (pcN := 31) jI_379_30 rfl rfl rfl ?_
  refine jT_adv 1 (pcN := 32) (LN := [(5, (0, 5)), (7, (0, 0)), (6, (0, 1)), (4, (4, 3)), (3, (4, 2)), (2, (4, 1)), (1, (4, 0)), (0, (6, 0))]) (stN := [(0, 5), (0, 5)]) (hsN := jpA_1912) (c1 := 0) (s1 := 0) (c2 := 0) (s2 := 0) (by exact rfl) ?_ (by omega) (by omega)
  refine jT_xiconst (k := 5) (pcN := 33) jI_379_32 rfl ?_
  refine jT_xisub (x := 5) (y := 5) (z := 0) (pcN := 34) jI_379_33 rfl (by decide) rfl ?_
  refine jT_xicT (pcN := 3746) jI_379_34 rfl (by decide +kernel) rfl ?_
  refine jT_xiconst (k := 1) (pcN := 3747) jI_379_3746 rfl ?_
  exact jT_ret rfl (by decide) (by show 41 ≤ 41; decide) (by omega) (by omega) ⟨rfl, rfl⟩
set_option maxRecDepth 100000 in
theorem jL_32_4 {d : Nat} {x0 x1 x2 x3 x4 : Int} (h_x0 : (-2147483648) ≤ x0 ∧ x0 ≤ 2147483647) (h_x1 : 1 ≤ x1 ∧ x1 ≤ 1) (h_x2 : (-2147483648) ≤ x2 ∧ x2 ≤ (-1)) (h_x3 : (-2147483648) ≤ x3 ∧ x3 ≤ 2147483647) (h_x4 : (-2147483648) ≤ x4 ∧ x4 ≤ 2147483647) : jT [x0, x1, x2, x3, x4] (d + 3) 379 41 2474 [(5, (0, 0)), (4, (4, 3)), (3, (4, 2)), (2, (4, 1)), (1, (4, 0)), (0, (6, 0))] [] jpA_1923 1 6 (fun k v hsN => k = 0 ∧ v = (0, 1)) := by
  refine jT_xaload_n (v := (4, 0)) (pcN := 2475) jI_379_2474 rfl rfl rfl ?_
  refine jT_xaload_n (v := (6, 0)) (pcN := 2476) jI_379_2475 rfl rfl rfl ?_
  refine jT_xiload (v := (0, 0)) (pcN := 2478) jI_379_2476 rfl rfl rfl ?_
  refine jT_xiconst (k := 1) (pcN := 2479) jI_379_2478 rfl ?_
  refine jT_xiadd (x := 0) (y := 1) (z := 1) (pcN := 2480) jI_379_2479 rfl (by decide) rfl ?_
  refine jT_adv 1 (pcN := 2481) (LN := [(5, (0, 0)), (4, (4, 3)), (3, (4, 2)), (2, (4, 1)), (1, (4, 0)), (0, (6, 0))]) (stN := [(0, x1), (4, 0)]) (hsN := jpA_1923) (c1 := 0) (s1 := 0) (c2 := 1) (s2 := 6) (by exact rfl) ?_ (by omega) (by omega)
  refine jT_eq (LN := [(5, (0, 0)), (4, (4, 3)), (3, (4, 2)), (2, (4, 1)), (1, (4, 0)), (0, (6, 0))]) (stN := [(0, 1), (4, 0)]) (hsN := [jzA_265, jzA_266, jgh, jgh, jgh, jgh, jgh, jgh, jgh, jgh, jgh, jgh, jgh, jgh, jzA_322, (100, [], jS0), jgh, jgh, jgh, jgh, jgh, jgh, jgh, jgh, jgh, jgh, jgh, jgh, jgh, jgh, jgh, (117, [], [35, 36, 37, 38]), jgh, jgh, jgh, jgh, (7, [(4, 39), (4, (-1)), (4, (-1))], []), jgh, jgh, (114, [], [40]), jgh]) (rfl) (by simp only [List.cons.injEq, Prod.mk.injEq, and_true, true_and] <;> ((try unfold jw); (try unfold jwl); omega)) (rfl) ?_
  refine jT_xaload_n (v := (6, 0)) (pcN := 2482) jI_379_2481 rfl rfl rfl ?_
  refine jT_xiload (v := (0, 0)) (pcN := 2484) jI_379_2482 rfl rfl rfl ?_
  refine jT_xiconst (k := 2) (pcN := 2485) jI_379_2484 rfl ?_
  refine jT_xiadd (x := 0) (y := 2) (z := 2) (pcN := 2486) jI_379_2485 rfl (by decide) rfl ?_
  refine jT_adv 1 (pcN := 2487) (LN := [(5, (0, 0)), (4, (4, 3)), (3, (4, 2)), (2, (4, 1)), (1, (4, 0)), (0, (6, 0))]) (stN := [(0, x2), (0, 1), (4, 0)]) (hsN := jpA_1923) (c1 := 0) (s1 := 0) (c2 := 1) (s2 := 6) (by exact rfl) ?_ (by omega) (by omega)
  refine jT_xaload_n (v := (4, 2)) (pcN := 2488) jI_379_2487 rfl rfl rfl ?_
  refine jT_fR [0, 2, 4, 5, 6, 7, 8, 9, 10, 11, 12, 13, 14, 30, 31, 32, 33, 34, 35, 36, 37, 38, 39, 40] 41 (y := 356) (pcN := 2491) (dC := 2) (bc1 := 1) (bc2 := 6) (c1 := 0) (c2 := 0) (as := [(4, 0), (0, 1), (0, x2), (4, 2)]) (asC := [(4, 0), (0, 1), (0, x2), (4, 1)]) (LN := [(5, (0, 0)), (4, (4, 3)), (3, (4, 2)), (2, (4, 1)), (1, (4, 0)), (0, (6, 0))]) (stN := []) (hsC := jpA_1846) (v := (0, 1)) (st2 := [(0, 1)]) (jA_356_1055 (d := 0) (by omega)) (by rfl) (by rfl) (by decide +kernel) (by rfl) (by rfl) (by omega) (by omega) (by omega) (by omega) rfl ?_
  refine jT_xistore (v := (0, 1)) (LN := [(6, (0, 1)), (5, (0, 0)), (4, (4, 3)), (3, (4, 2)), (2, (4, 1)), (1, (4, 0)), (0, (6, 0))]) (pcN := 2493) jI_379_2491 rfl rfl rfl rfl ?_
  refine jT_xaload_n (v := (4, 1)) (pcN := 2494) jI_379_2493 rfl rfl rfl ?_
  refine jT_xaload_n (v := (6, 0)) (pcN := 2495) jI_379_2494 rfl rfl rfl ?_
  refine jT_xiload (v := (0, 0)) (pcN := 2497) jI_379_2495 rfl rfl rfl ?_
  refine jT_xiconst (k := 1) (pcN := 2498) jI_379_2497 rfl ?_
  refine jT_xiadd (x := 0) (y := 1) (z := 1) (pcN := 2499) jI_379_2498 rfl (by decide) rfl ?_
  refine jT_adv 1 (pcN := 2500) (LN := [(6, (0, 1)), (5, (0, 0)), (4, (4, 3)), (3, (4, 2)), (2, (4, 1)), (1, (4, 0)), (0, (6, 0))]) (stN := [(0, x1), (4, 1)]) (hsN := jpA_1923) (c1 := 0) (s1 := 0) (c2 := 0) (s2 := 0) (by exact rfl) ?_ (by omega) (by omega)
  refine jT_eq (LN := [(6, (0, 1)), (5, (0, 0)), (4, (4, 3)), (3, (4, 2)), (2, (4, 1)), (1, (4, 0)), (0, (6, 0))]) (stN := [(0, 1), (4, 1)]) (hsN := [jzA_265, jzA_266, jgh, jgh, jgh, jgh, jgh, jgh, jgh, jgh, jgh, jgh, jgh, jgh, jzA_322, (100, [], jS0), jgh, jgh, jgh, jgh, jgh, jgh, jgh, jgh, jgh, jgh, jgh, jgh, jgh, jgh, jgh, (117, [], [35, 36, 37, 38]), jgh, jgh, jgh, jgh, (7, [(4, 39), (4, (-1)), (4, (-1))], []), jgh, jgh, (114, [], [40]), jgh]) (rfl) (by simp only [List.cons.injEq, Prod.mk.injEq, and_true, true_and] <;> ((try unfold jw); (try unfold jwl); omega)) (rfl) ?_
  refine jT_xaload_n (v := (6, 0)) (pcN := 2501) jI_379_2500 rfl rfl rfl ?_
  refine jT_xiload (v := (0, 0)) (pcN := 2503) jI_379_2501 rfl rfl rfl ?_
  refine jT_xiconst (k := 2) (pcN := 2504) jI_379_2503 rfl ?_
  refine jT_xiadd (x := 0) (y := 2) (z := 2) (pcN := 2505) jI_379_2504 rfl (by decide) rfl ?_
  refine jT_adv 1 (pcN := 2506) (LN := [(6, (0, 1)), (5, (0, 0)), (4, (4, 3)), (3, (4, 2)), (2, (4, 1)), (1, (4, 0)), (0, (6, 0))]) (stN := [(0, x2), (0, 1), (4, 1)]) (hsN := jpA_1923) (c1 := 0) (s1 := 0) (c2 := 0) (s2 := 0) (by exact rfl) ?_ (by omega) (by omega)
  refine jT_fB [1, 15, 16, 17, 18, 19, 20, 21, 22, 23, 24, 25, 26, 27, 28, 29] 41 (y := 283) (pcN := 2509) (dC := 2) (bc1 := 0) (bc2 := 0) (c1 := 0) (c2 := 0) (as := [(4, 1), (0, 1), (0, x2)]) (asC := [(4, 0), (0, 1), (0, x2)]) (LN := [(6, (0, 1)), (5, (0, 0)), (4, (4, 3)), (3, (4, 2)), (2, (4, 1)), (1, (4, 0)), (0, (6, 0))]) (stN := []) (hsC := jpA_1519) (hsD := jpA_1820) (v := (0, 0)) (st2 := [(0, 0)]) (hs2 := jpA_1924) (jA_283_1056 (d := 0) (by omega)) (by rfl) (by rfl) (by decide +kernel) (by rfl) (by rfl) (by omega) (by omega) (by omega) (by omega) rfl (by decide +kernel) ?_
  refine jT_xistore (v := (0, 0)) (LN := [(7, (0, 0)), (6, (0, 1)), (5, (0, 0)), (4, (4, 3)), (3, (4, 2)), (2, (4, 1)), (1, (4, 0)), (0, (6, 0))]) (pcN := 2511) jI_379_2509 rfl rfl rfl rfl ?_
  refine jT_xaload_n (v := (4, 1)) (pcN := 2512) jI_379_2511 rfl rfl rfl ?_
  refine jT_fR [1, 15, 16, 17, 18, 19, 20, 21, 22, 23, 24, 25, 26, 27, 28, 29] 41 (y := 186) (pcN := 2515) (dC := 0) (bc1 := 0) (bc2 := 0) (c1 := 0) (c2 := 0) (as := [(4, 1)]) (asC := [(4, 0)]) (LN := [(7, (0, 0)), (6, (0, 1)), (5, (0, 0)), (4, (4, 3)), (3, (4, 2)), (2, (4, 1)), (1, (4, 0)), (0, (6, 0))]) (stN := []) (hsC := jpA_20) (v := (0, 1)) (st2 := [(0, 1)]) (jA_186_8 (d := 0)) (by rfl) (by rfl) (by decide +kernel) (by rfl) (by rfl) (by omega) (by omega) (by omega) (by omega) rfl ?_
  refine jT_xiload (v := (0, 1)) (pcN := 2517) jI_379_2515 rfl rfl rfl ?_
  refine jT_xicT (pcN := 2522) jI_379_2517 rfl (by decide +kernel) rfl ?_
  refine jT_xiload (v := (0, 1)) (pcN := 2524) jI_379_2522 rfl rfl rfl ?_
  refine jT_xifT (pcN := 2539) jI_379_2524 rfl (by decide +kernel) rfl ?_
  refine jT_xgoto (pcN := 3740) jI_379_2539 rfl ?_
  refine jT_xiinc (x := 0) (z := 5) (LN := [(5, (0, 5)), (7, (0, 0)), (6, (0, 1)), (4, (4, 3)), (3, (4, 2)), (2, (4, 1)), (1, (4, 0)), (0, (6, 0))]) (pcN := 3743) jI_379_3740 rfl rfl (by decide) rfl rfl ?_
  refine jT_xgoto (pcN := 28) jI_379_3743 rfl ?_
  refine jT_xiload (v := (0, 5)) (pcN := 30) jI_379_28 rfl rfl rfl ?_
  refine jT_xaload_n (v := (6, 0)) (pcN := 31) jI_379_30 rfl rfl rfl ?_
  refine jT_adv 1 (pcN := 32) (LN := [(5, (0, 5)), (7, (0, 0)), (6, (0, 1)), (4, (4, 3)), (3, (4, 2)), (2, (4, 1)), (1, (4, 0)), (0, (6, 0))]) (stN := [(0, 5), (0, 5)]) (hsN := jpA_1924) (c1 := 0) (s1 := 0) (c2 := 0) (s2 := 0) (by exact rfl) ?_ (by omega) (by omega)
  refine jT_xiconst (k := 5) (pcN := 33) jI_379_32 rfl ?_
  refine jT_xisub (x := 5) (y := 5) (z := 0) (pcN := 34) jI_379_33 rfl (by decide) rfl ?_
  refine jT_xicT (pcN := 3746) jI_379_34 rfl (by decide +kernel) rfl ?_
  refine jT_xiconst (k := 1) (pcN := 3747) jI_379_3746 rfl ?_
  exact jT_ret rfl (by decide) (by show 41 ≤ 41; decide) (by omega) (by omega) ⟨rfl, rfl⟩
def jpA_3885 : List JC := [jzA_265, jzA_266, (101, [], [0]), jgh, (8, [(4, 30), (4, 31)], []), jgh, jgh, jgh, jgh, jgh, jgh, jgh, jgh, jgh, jzA_721, (100, [], jS0), jgh, jgh, jgh, jgh, jgh, (101, [], [0, 0, 0, 0, 0, 0]), (100, [], (List.replicate 1792 0)), jgh, jgh, jgh, jgh, jgh, jgh, jgh, jgh, (101, [], [0, 0, 0, 0, 0, 0]), jgh, (117, [], [37, 38, 39, 40]), jgh, jgh, jgh, jgh, (7, [(4, 41), (4, 45), (4, 50)], []), jgh, jgh, (114, [], [42]), (4, [(4, 43), (1, 1)], []), (101, [], [0, 0, 0, 0, 0, 0]), (114, [], [49]), (114, [], [49]), (101, [], [0, 0, 0, 0, 0, 0]), (4, [(4, 46), (1, 1)], []), (101, [], [1, 0, 0, 0, 0, 0]), (4, [(4, 48), (1, 1)], []), (100, [], [0])]
def jpA_3886 : List JC := [jzA_265, jzA_3804, (101, [], [0]), jgh, (8, [(4, 30), (4, 31)], []), jgh, jgh, jgh, jgh, jgh, jgh, jgh, jgh, jgh, jzA_721, (100, [], jS0), jgh, jgh, jgh, jgh, jgh, (101, [], [1, 0, 0, 0, 0, 0]), jzA_3760, jgh, jgh, jgh, jgh, jgh, jgh, jgh, jgh, (101, [], [0, 0, 0, 0, 0, 0]), jgh, (117, [], [37, 38, 39, 40]), jgh, jgh, jgh, jgh, (7, [(4, 41), (4, 45), (4, 50)], []), jgh, jgh, (114, [], [42]), (4, [(4, 43), (1, 1)], []), (101, [], [0, 0, 0, 0, 0, 0]), (114, [], [49]), (114, [], [49]), (101, [], [0, 0, 0, 0, 0, 0]), (4, [(4, 46), (1, 1)], []), (101, [], [1, 0, 0, 0, 0, 0]), (4, [(4, 48), (1, 1)], []), (100, [], [0])]
set_option maxRecDepth 100000 in
theorem jL_32_5 {d : Nat} {x0 x1 x2 x3 x4 : Int} (h_x0 : (-2147483648) ≤ x0 ∧ x0 ≤ 2147483647) (h_x1 : 1 ≤ x1 ∧ x1 ≤ 1) (h_x2 : 0 ≤ x2 ∧ x2 ≤ 0) (h_x3 : (-2147483648) ≤ x3 ∧ x3 ≤ 2147483647) (h_x4 : (-2147483648) ≤ x4 ∧ x4 ≤ 2147483647) : jT [x0, x1, x2, x3, x4] (d + 8) 379 44 2474 [(5, (0, 0)), (4, (4, 3)), (3, (4, 2)), (2, (4, 1)), (1, (4, 0)), (0, (6, 0))] [] jpA_3812 7 19 (fun k v hsN => k = 0 ∧ v = (0, 1)) := by
  refine jT_xaload_n (v := (4, 0)) (pcN := 2475) jI_379_2474 rfl rfl rfl ?_
  refine jT_xaload_n (v := (6, 0)) (pcN := 2476) jI_379_2475 rfl rfl rfl ?_
  refine jT_xiload (v := (0, 0)) (pcN := 2478) jI_379_2476 rfl rfl rfl ?_
  refine jT_xiconst (k := 1) (pcN := 2479) jI_379_2478 rfl ?_
  refine jT_xiadd (x := 0) (y := 1) (z := 1) (pcN := 2480) jI_379_2479 rfl (by decide) rfl ?_
  refine jT_adv 1 (pcN := 2481) (LN := [(5, (0, 0)), (4, (4, 3)), (3, (4, 2)), (2, (4, 1)), (1, (4, 0)), (0, (6, 0))]) (stN := [(0, x1), (4, 0)]) (hsN := jpA_3812) (c1 := 0) (s1 := 0) (c2 := 7) (s2 := 19) (by exact rfl) ?_ (by omega) (by omega)
  refine jT_eq (LN := [(5, (0, 0)), (4, (4, 3)), (3, (4, 2)), (2, (4, 1)), (1, (4, 0)), (0, (6, 0))]) (stN := [(0, 1), (4, 0)]) (hsN := [jzA_265, jzA_266, (101, [], [0]), jgh, (8, [(4, 30), (4, 31)], []), jgh, jgh, jgh, jgh, jgh, jgh, jgh, jgh, jgh, jzA_721, (100, [], jS0), jgh, jgh, jgh, jgh, jgh, (101, [], [0, 0, 0, 0, 0, 0]), (100, [], (List.replicate 1792 0)), jgh, jgh, jgh, jgh, jgh, jgh, jgh, jgh, (101, [], [0, 0, 0, 0, 0, 0]), jgh, (117, [], [37, 38, 39, 40]), jgh, jgh, jgh, jgh, (7, [(4, 41), (4, (-1)), (4, (-1))], []), jgh, jgh, (114, [], [42]), (4, [(4, 43), (1, 1)], []), (101, [], [0, 0, 0, 0, 0, 0])]) (rfl) (by simp only [List.cons.injEq, Prod.mk.injEq, and_true, true_and] <;> ((try unfold jw); (try unfold jwl); omega)) (rfl) ?_
  refine jT_xaload_n (v := (6, 0)) (pcN := 2482) jI_379_2481 rfl rfl rfl ?_
  refine jT_xiload (v := (0, 0)) (pcN := 2484) jI_379_2482 rfl rfl rfl ?_
  refine jT_xiconst (k := 2) (pcN := 2485) jI_379_2484 rfl ?_
  refine jT_xiadd (x := 0) (y := 2) (z := 2) (pcN := 2486) jI_379_2485 rfl (by decide) rfl ?_
  refine jT_adv 1 (pcN := 2487) (LN := [(5, (0, 0)), (4, (4, 3)), (3, (4, 2)), (2, (4, 1)), (1, (4, 0)), (0, (6, 0))]) (stN := [(0, x2), (0, 1), (4, 0)]) (hsN := jpA_3812) (c1 := 0) (s1 := 0) (c2 := 7) (s2 := 19) (by exact rfl) ?_ (by omega) (by omega)
  refine jT_eq (LN := [(5, (0, 0)), (4, (4, 3)), (3, (4, 2)), (2, (4, 1)), (1, (4, 0)), (0, (6, 0))]) (stN := [(0, 0), (0, 1), (4, 0)]) (hsN := [jzA_265, jzA_266, (101, [], [0]), jgh, (8, [(4, 30), (4, 31)], []), jgh, jgh, jgh, jgh, jgh, jgh, jgh, jgh, jgh, jzA_721, (100, [], jS0), jgh, jgh, jgh, jgh, jgh, (101, [], [0, 0, 0, 0, 0, 0]), (100, [], (List.replicate 1792 0)), jgh, jgh, jgh, jgh, jgh, jgh, jgh, jgh, (101, [], [0, 0, 0, 0, 0, 0]), jgh, (117, [], [37, 38, 39, 40]), jgh, jgh, jgh, jgh, (7, [(4, 41), (4, (-1)), (4, (-1))], []), jgh, jgh, (114, [], [42]), (4, [(4, 43), (1, 1)], []), (101, [], [0, 0, 0, 0, 0, 0])]) (rfl) (by simp only [List.cons.injEq, Prod.mk.injEq, and_true, true_and] <;> ((try unfold jw); (try unfold jwl); omega)) (rfl) ?_
  refine jT_xaload_n (v := (4, 2)) (pcN := 2488) jI_379_2487 rfl rfl rfl ?_
  refine jT_fB [0, 2, 4, 5, 6, 7, 8, 9, 10, 11, 12, 13, 14, 30, 31, 32, 33, 34, 35, 36, 37, 38, 39, 40, 41, 42, 43] 44 (y := 356) (pcN := 2491) (dC := 7) (bc1 := 7) (bc2 := 19) (c1 := 0) (c2 := 0) (as := [(4, 0), (0, 1), (0, 0), (4, 2)]) (asC := [(4, 0), (0, 1), (0, 0), (4, 1)]) (LN := [(5, (0, 0)), (4, (4, 3)), (3, (4, 2)), (2, (4, 1)), (1, (4, 0)), (0, (6, 0))]) (stN := []) (hsC := jpA_3770) (hsD := jpA_3771) (v := (0, 0)) (st2 := [(0, 0)]) (hs2 := jpA_3885) (jA_356_1058 (d := 0)) (by rfl) (by rfl) (by decide +kernel) (by rfl) (by rfl) (by omega) (by omega) (by omega) (by omega) rfl (by decide +kernel) ?_
  refine jT_xistore (v := (0, 0)) (LN := [(6, (0, 0)), (5, (0, 0)), (4, (4, 3)), (3, (4, 2)), (2, (4, 1)), (1, (4, 0)), (0, (6, 0))]) (pcN := 2493) jI_379_2491 rfl rfl rfl rfl ?_
  refine jT_xaload_n (v := (4, 1)) (pcN := 2494) jI_379_2493 rfl rfl rfl ?_
  refine jT_xaload_n (v := (6, 0)) (pcN := 2495) jI_379_2494 rfl rfl rfl ?_
  refine jT_xiload (v := (0, 0)) (pcN := 2497) jI_379_2495 rfl rfl rfl ?_
  refine jT_xiconst (k := 1) (pcN := 2498) jI_379_2497 rfl ?_
  refine jT_xiadd (x := 0) (y := 1) (z := 1) (pcN := 2499) jI_379_2498 rfl (by decide) rfl ?_
  refine jT_adv 1 (pcN := 2500) (LN := [(6, (0, 0)), (5, (0, 0)), (4, (4, 3)), (3, (4, 2)), (2, (4, 1)), (1, (4, 0)), (0, (6, 0))]) (stN := [(0, x1), (4, 1)]) (hsN := jpA_3885) (c1 := 0) (s1 := 0) (c2 := 0) (s2 := 0) (by exact rfl) ?_ (by omega) (by omega)
  refine jT_eq (LN := [(6, (0, 0)), (5, (0, 0)), (4, (4, 3)), (3, (4, 2)), (2, (4, 1)), (1, (4, 0)), (0, (6, 0))]) (stN := [(0, 1), (4, 1)]) (hsN := [jzA_265, jzA_266, (101, [], [0]), jgh, (8, [(4, 30), (4, 31)], []), jgh, jgh, jgh, jgh, jgh, jgh, jgh, jgh, jgh, jzA_721, (100, [], jS0), jgh, jgh, jgh, jgh, jgh, (101, [], [0, 0, 0, 0, 0, 0]), (100, [], (List.replicate 1792 0)), jgh, jgh, jgh, jgh, jgh, jgh, jgh, jgh, (101, [], [0, 0, 0, 0, 0, 0]), jgh, (117, [], [37, 38, 39, 40]), jgh, jgh, jgh, jgh, (7, [(4, 41), (4, 45), (4, 50)], []), jgh, jgh, (114, [], [42]), (4, [(4, 43), (1, 1)], []), (101, [], [0, 0, 0, 0, 0, 0]), (114, [], [49]), (114, [], [49]), (101, [], [0, 0, 0, 0, 0, 0]), (4, [(4, 46), (1, 1)], []), (101, [], [1, 0, 0, 0, 0, 0]), (4, [(4, 48), (1, 1)], []), (100, [], [0])]) (rfl) (by simp only [List.cons.injEq, Prod.mk.injEq, and_true, true_and] <;> ((try unfold jw); (try unfold jwl); omega)) (rfl) ?_
  refine jT_xaload_n (v := (6, 0)) (pcN := 2501) jI_379_2500 rfl rfl rfl ?_
  refine jT_xiload (v := (0, 0)) (pcN := 2503) jI_379_2501 rfl rfl rfl ?_
  refine jT_xiconst (k := 2) (pcN := 2504) jI_379_2503 rfl ?_
  refine jT_xiadd (x := 0) (y := 2) (z := 2) (pcN := 2505) jI_379_2504 rfl (by decide) rfl ?_
  refine jT_adv 1 (pcN := 2506) (LN := [(6, (0, 0)), (5, (0, 0)), (4, (4, 3)), (3, (4, 2)), (2, (4, 1)), (1, (4, 0)), (0, (6, 0))]) (stN := [(0, x2), (0, 1), (4, 1)]) (hsN := jpA_3885) (c1 := 0) (s1 := 0) (c2 := 0) (s2 := 0) (by exact rfl) ?_ (by omega) (by omega)
  refine jT_eq (LN := [(6, (0, 0)), (5, (0, 0)), (4, (4, 3)), (3, (4, 2)), (2, (4, 1)), (1, (4, 0)), (0, (6, 0))]) (stN := [(0, 0), (0, 1), (4, 1)]) (hsN := [jzA_265, jzA_266, (101, [], [0]), jgh, (8, [(4, 30), (4, 31)], []), jgh, jgh, jgh, jgh, jgh, jgh, jgh, jgh, jgh, jzA_721, (100, [], jS0), jgh, jgh, jgh, jgh, jgh, (101, [], [0, 0, 0, 0, 0, 0]), (100, [], (List.replicate 1792 0)), jgh, jgh, jgh, jgh, jgh, jgh, jgh, jgh, (101, [], [0, 0, 0, 0, 0, 0]), jgh, (117, [], [37, 38, 39, 40]), jgh, jgh, jgh, jgh, (7, [(4, 41), (4, 45), (4, 50)], []), jgh, jgh, (114, [], [42]), (4, [(4, 43), (1, 1)], []), (101, [], [0, 0, 0, 0, 0, 0]), (114, [], [49]), (114, [], [49]), (101, [], [0, 0, 0, 0, 0, 0]), (4, [(4, 46), (1, 1)], []), (101, [], [1, 0, 0, 0, 0, 0]), (4, [(4, 48), (1, 1)], []), (100, [], [0])]) (rfl) (by simp only [List.cons.injEq, Prod.mk.injEq, and_true, true_and] <;> ((try unfold jw); (try unfold jwl); omega)) (rfl) ?_
  refine jT_fB [1, 15, 16, 17, 18, 19, 20, 21, 22, 23, 24, 25, 26, 27, 28, 29] 51 (y := 283) (pcN := 2509) (dC := 6) (bc1 := 0) (bc2 := 0) (c1 := 0) (c2 := 0) (as := [(4, 1), (0, 1), (0, 0)]) (asC := [(4, 0), (0, 1), (0, 0)]) (LN := [(6, (0, 0)), (5, (0, 0)), (4, (4, 3)), (3, (4, 2)), (2, (4, 1)), (1, (4, 0)), (0, (6, 0))]) (stN := []) (hsC := jpA_1840) (hsD := jpA_3766) (v := (0, 0)) (st2 := [(0, 0)]) (hs2 := jpA_3886) (jA_283_1063 (d := 0)) (by rfl) (by rfl) (by decide +kernel) (by rfl) (by rfl) (by omega) (by omega) (by omega) (by omega) rfl (by decide +kernel) ?_
  refine jT_xistore (v := (0, 0)) (LN := [(7, (0, 0)), (6, (0, 0)), (5, (0, 0)), (4, (4, 3)), (3, (4, 2)), (2, (4, 1)), (1, (4, 0)), (0, (6, 0))]) (pcN := 2511) jI_379_2509 rfl rfl rfl rfl ?_
  refine jT_xaload_n (v := (4, 1)) (pcN := 2512) jI_379_2511 rfl rfl rfl ?_
  refine jT_fR [1, 15, 16, 17, 18, 19, 20, 21, 22, 23, 24, 25, 26, 27, 28, 29] 51 (y := 186) (pcN := 2515) (dC := 0) (bc1 := 0) (bc2 := 0) (c1 := 0) (c2 := 0) (as := [(4, 1)]) (asC := [(4, 0)]) (LN := [(7, (0, 0)), (6, (0, 0)), (5, (0, 0)), (4, (4, 3)), (3, (4, 2)), (2, (4, 1)), (1, (4, 0)), (0, (6, 0))]) (stN := []) (hsC := jpA_3767) (v := (0, 0)) (st2 := [(0, 0)]) (jA_186_1020 (d := 0)) (by rfl) (by rfl) (by decide +kernel) (by rfl) (by rfl) (by omega) (by omega) (by omega) (by omega) rfl ?_
  refine jT_xiload (v := (0, 0)) (pcN := 2517) jI_379_2515 rfl rfl rfl ?_
  refine jT_xicT (pcN := 2522) jI_379_2517 rfl (by decide +kernel) rfl ?_
  refine jT_xiload (v := (0, 0)) (pcN := 2524) jI_379_2522 rfl rfl rfl ?_
  refine jT_xifF (t := 2539) (pcN := 2527) jI_379_2524 rfl (by decide +kernel) rfl rfl ?_
  refine jT_xaload_n (v := (4, 2)) (pcN := 2528) jI_379_2527 rfl rfl rfl ?_
  refine jT_xiconst (k := 0) (pcN := 2529) jI_379_2528 rfl ?_
  refine jT_lald (x := 0) (a := 2) (j := 0) (fs := []) (X := [0]) jI_379_2529 rfl rfl rfl rfl ?_
  refine jT_eq (LN := [(7, (0, 0)), (6, (0, 0)), (5, (0, 0)), (4, (4, 3)), (3, (4, 2)), (2, (4, 1)), (1, (4, 0)), (0, (6, 0))]) (stN := [(1, 0)]) (hsN := jpA_3886) rfl rfl rfl ?_
  refine jT_xiload (v := (0, 0)) (pcN := 2532) jI_379_2530 rfl rfl rfl ?_
  refine jT_xi2l (x := 0) (z := 0) (pcN := 2533) jI_379_2532 rfl (by decide +kernel) rfl ?_
  refine jT_lcmp (a := 0) (b := 0) (z := 0) (by rfl) (by rfl) (by decide +kernel) (by decide +kernel) (by decide) ?_
  refine jT_xifT (pcN := 2539) jI_379_2534 rfl (by decide +kernel) rfl ?_
  refine jT_xgoto (pcN := 3740) jI_379_2539 rfl ?_
  refine jT_xiinc (x := 0) (z := 5) (LN := [(5, (0, 5)), (7, (0, 0)), (6, (0, 0)), (4, (4, 3)), (3, (4, 2)), (2, (4, 1)), (1, (4, 0)), (0, (6, 0))]) (pcN := 3743) jI_379_3740 rfl rfl (by decide) rfl rfl ?_
  refine jT_xgoto (pcN := 28) jI_379_3743 rfl ?_
  refine jT_xiload (v := (0, 5)) (pcN := 30) jI_379_28 rfl rfl rfl ?_
  refine jT_xaload_n (v := (6, 0)) (pcN := 31) jI_379_30 rfl rfl rfl ?_
  refine jT_adv 1 (pcN := 32) (LN := [(5, (0, 5)), (7, (0, 0)), (6, (0, 0)), (4, (4, 3)), (3, (4, 2)), (2, (4, 1)), (1, (4, 0)), (0, (6, 0))]) (stN := [(0, 5), (0, 5)]) (hsN := jpA_3886) (c1 := 0) (s1 := 0) (c2 := 0) (s2 := 0) (by exact rfl) ?_ (by omega) (by omega)
  refine jT_xiconst (k := 5) (pcN := 33) jI_379_32 rfl ?_
  refine jT_xisub (x := 5) (y := 5) (z := 0) (pcN := 34) jI_379_33 rfl (by decide) rfl ?_
  refine jT_xicT (pcN := 3746) jI_379_34 rfl (by decide +kernel) rfl ?_
  refine jT_xiconst (k := 1) (pcN := 3747) jI_379_3746 rfl ?_
  exact jT_ret rfl (by decide) (by show 44 ≤ 51; decide) (by omega) (by omega) ⟨rfl, rfl⟩
set_option maxRecDepth 100000 in
theorem jL_32_6 {d : Nat} {x0 x1 x2 x3 x4 : Int} (h_x0 : (-2147483648) ≤ x0 ∧ x0 ≤ 2147483647) (h_x1 : 1 ≤ x1 ∧ x1 ≤ 1) (h_x2 : 1 ≤ x2 ∧ x2 ≤ 2147483647) (h_x3 : (-2147483648) ≤ x3 ∧ x3 ≤ 2147483647) (h_x4 : (-2147483648) ≤ x4 ∧ x4 ≤ 2147483647) : jT [x0, x1, x2, x3, x4] (d + 3) 379 41 2474 [(5, (0, 0)), (4, (4, 3)), (3, (4, 2)), (2, (4, 1)), (1, (4, 0)), (0, (6, 0))] [] jpA_1923 1 6 (fun k v hsN => k = 0 ∧ v = (0, 1)) := by
  refine jT_xaload_n (v := (4, 0)) (pcN := 2475) jI_379_2474 rfl rfl rfl ?_
  refine jT_xaload_n (v := (6, 0)) (pcN := 2476) jI_379_2475 rfl rfl rfl ?_
  refine jT_xiload (v := (0, 0)) (pcN := 2478) jI_379_2476 rfl rfl rfl ?_
  refine jT_xiconst (k := 1) (pcN := 2479) jI_379_2478 rfl ?_
  refine jT_xiadd (x := 0) (y := 1) (z := 1) (pcN := 2480) jI_379_2479 rfl (by decide) rfl ?_
  refine jT_adv 1 (pcN := 2481) (LN := [(5, (0, 0)), (4, (4, 3)), (3, (4, 2)), (2, (4, 1)), (1, (4, 0)), (0, (6, 0))]) (stN := [(0, x1), (4, 0)]) (hsN := jpA_1923) (c1 := 0) (s1 := 0) (c2 := 1) (s2 := 6) (by exact rfl) ?_ (by omega) (by omega)
  refine jT_eq (LN := [(5, (0, 0)), (4, (4, 3)), (3, (4, 2)), (2, (4, 1)), (1, (4, 0)), (0, (6, 0))]) (stN := [(0, 1), (4, 0)]) (hsN := [jzA_265, jzA_266, jgh, jgh, jgh, jgh, jgh, jgh, jgh, jgh, jgh, jgh, jgh, jgh, jzA_322, (100, [], jS0), jgh, jgh, jgh, jgh, jgh, jgh, jgh, jgh, jgh, jgh, jgh, jgh, jgh, jgh, jgh, (117, [], [35, 36, 37, 38]), jgh, jgh, jgh, jgh, (7, [(4, 39), (4, (-1)), (4, (-1))], []), jgh, jgh, (114, [], [40]), jgh]) (rfl) (by simp only [List.cons.injEq, Prod.mk.injEq, and_true, true_and] <;> ((try unfold jw); (try unfold jwl); omega)) (rfl) ?_
  refine jT_xaload_n (v := (6, 0)) (pcN := 2482) jI_379_2481 rfl rfl rfl ?_
  refine jT_xiload (v := (0, 0)) (pcN := 2484) jI_379_2482 rfl rfl rfl ?_
  refine jT_xiconst (k := 2) (pcN := 2485) jI_379_2484 rfl ?_
  refine jT_xiadd (x := 0) (y := 2) (z := 2) (pcN := 2486) jI_379_2485 rfl (by decide) rfl ?_
  refine jT_adv 1 (pcN := 2487) (LN := [(5, (0, 0)), (4, (4, 3)), (3, (4, 2)), (2, (4, 1)), (1, (4, 0)), (0, (6, 0))]) (stN := [(0, x2), (0, 1), (4, 0)]) (hsN := jpA_1923) (c1 := 0) (s1 := 0) (c2 := 1) (s2 := 6) (by exact rfl) ?_ (by omega) (by omega)
  refine jT_xaload_n (v := (4, 2)) (pcN := 2488) jI_379_2487 rfl rfl rfl ?_
  refine jT_fR [0, 2, 4, 5, 6, 7, 8, 9, 10, 11, 12, 13, 14, 30, 31, 32, 33, 34, 35, 36, 37, 38, 39, 40] 41 (y := 356) (pcN := 2491) (dC := 2) (bc1 := 1) (bc2 := 6) (c1 := 0) (c2 := 0) (as := [(4, 0), (0, 1), (0, x2), (4, 2)]) (asC := [(4, 0), (0, 1), (0, x2), (4, 1)]) (LN := [(5, (0, 0)), (4, (4, 3)), (3, (4, 2)), (2, (4, 1)), (1, (4, 0)), (0, (6, 0))]) (stN := []) (hsC := jpA_1846) (v := (0, 1)) (st2 := [(0, 1)]) (jA_356_1065 (d := 0) (by omega)) (by rfl) (by rfl) (by decide +kernel) (by rfl) (by rfl) (by omega) (by omega) (by omega) (by omega) rfl ?_
  refine jT_xistore (v := (0, 1)) (LN := [(6, (0, 1)), (5, (0, 0)), (4, (4, 3)), (3, (4, 2)), (2, (4, 1)), (1, (4, 0)), (0, (6, 0))]) (pcN := 2493) jI_379_2491 rfl rfl rfl rfl ?_
  refine jT_xaload_n (v := (4, 1)) (pcN := 2494) jI_379_2493 rfl rfl rfl ?_
  refine jT_xaload_n (v := (6, 0)) (pcN := 2495) jI_379_2494 rfl rfl rfl ?_
  refine jT_xiload (v := (0, 0)) (pcN := 2497) jI_379_2495 rfl rfl rfl ?_
  refine jT_xiconst (k := 1) (pcN := 2498) jI_379_2497 rfl ?_
  refine jT_xiadd (x := 0) (y := 1) (z := 1) (pcN := 2499) jI_379_2498 rfl (by decide) rfl ?_
  refine jT_adv 1 (pcN := 2500) (LN := [(6, (0, 1)), (5, (0, 0)), (4, (4, 3)), (3, (4, 2)), (2, (4, 1)), (1, (4, 0)), (0, (6, 0))]) (stN := [(0, x1), (4, 1)]) (hsN := jpA_1923) (c1 := 0) (s1 := 0) (c2 := 0) (s2 := 0) (by exact rfl) ?_ (by omega) (by omega)
  refine jT_eq (LN := [(6, (0, 1)), (5, (0, 0)), (4, (4, 3)), (3, (4, 2)), (2, (4, 1)), (1, (4, 0)), (0, (6, 0))]) (stN := [(0, 1), (4, 1)]) (hsN := [jzA_265, jzA_266, jgh, jgh, jgh, jgh, jgh, jgh, jgh, jgh, jgh, jgh, jgh, jgh, jzA_322, (100, [], jS0), jgh, jgh, jgh, jgh, jgh, jgh, jgh, jgh, jgh, jgh, jgh, jgh, jgh, jgh, jgh, (117, [], [35, 36, 37, 38]), jgh, jgh, jgh, jgh, (7, [(4, 39), (4, (-1)), (4, (-1))], []), jgh, jgh, (114, [], [40]), jgh]) (rfl) (by simp only [List.cons.injEq, Prod.mk.injEq, and_true, true_and] <;> ((try unfold jw); (try unfold jwl); omega)) (rfl) ?_
  refine jT_xaload_n (v := (6, 0)) (pcN := 2501) jI_379_2500 rfl rfl rfl ?_
  refine jT_xiload (v := (0, 0)) (pcN := 2503) jI_379_2501 rfl rfl rfl ?_
  refine jT_xiconst (k := 2) (pcN := 2504) jI_379_2503 rfl ?_
  refine jT_xiadd (x := 0) (y := 2) (z := 2) (pcN := 2505) jI_379_2504 rfl (by decide) rfl ?_
  refine jT_adv 1 (pcN := 2506) (LN := [(6, (0, 1)), (5, (0, 0)), (4, (4, 3)), (3, (4, 2)), (2, (4, 1)), (1, (4, 0)), (0, (6, 0))]) (stN := [(0, x2), (0, 1), (4, 1)]) (hsN := jpA_1923) (c1 := 0) (s1 := 0) (c2 := 0) (s2 := 0) (by exact rfl) ?_ (by omega) (by omega)
  refine jT_fB [1, 15, 16, 17, 18, 19, 20, 21, 22, 23, 24, 25, 26, 27, 28, 29] 41 (y := 283) (pcN := 2509) (dC := 2) (bc1 := 0) (bc2 := 0) (c1 := 0) (c2 := 0) (as := [(4, 1), (0, 1), (0, x2)]) (asC := [(4, 0), (0, 1), (0, x2)]) (LN := [(6, (0, 1)), (5, (0, 0)), (4, (4, 3)), (3, (4, 2)), (2, (4, 1)), (1, (4, 0)), (0, (6, 0))]) (stN := []) (hsC := jpA_1519) (hsD := jpA_1820) (v := (0, 0)) (st2 := [(0, 0)]) (hs2 := jpA_1924) (jA_283_1066 (d := 0) (by omega)) (by rfl) (by rfl) (by decide +kernel) (by rfl) (by rfl) (by omega) (by omega) (by omega) (by omega) rfl (by decide +kernel) ?_
  refine jT_xistore (v := (0, 0)) (LN := [(7, (0, 0)), (6, (0, 1)), (5, (0, 0)), (4, (4, 3)), (3, (4, 2)), (2, (4, 1)), (1, (4, 0)), (0, (6, 0))]) (pcN := 2511) jI_379_2509 rfl rfl rfl rfl ?_
  refine jT_xaload_n (v := (4, 1)) (pcN := 2512) jI_379_2511 rfl rfl rfl ?_
  refine jT_fR [1, 15, 16, 17, 18, 19, 20, 21, 22, 23, 24, 25, 26, 27, 28, 29] 41 (y := 186) (pcN := 2515) (dC := 0) (bc1 := 0) (bc2 := 0) (c1 := 0) (c2 := 0) (as := [(4, 1)]) (asC := [(4, 0)]) (LN := [(7, (0, 0)), (6, (0, 1)), (5, (0, 0)), (4, (4, 3)), (3, (4, 2)), (2, (4, 1)), (1, (4, 0)), (0, (6, 0))]) (stN := []) (hsC := jpA_20) (v := (0, 1)) (st2 := [(0, 1)]) (jA_186_8 (d := 0)) (by rfl) (by rfl) (by decide +kernel) (by rfl) (by rfl) (by omega) (by omega) (by omega) (by omega) rfl ?_
  refine jT_xiload (v := (0, 1)) (pcN := 2517) jI_379_2515 rfl rfl rfl ?_
  refine jT_xicT (pcN := 2522) jI_379_2517 rfl (by decide +kernel) rfl ?_
  refine jT_xiload (v := (0, 1)) (pcN := 2524) jI_379_2522 rfl rfl rfl ?_
  refine jT_xifT (pcN := 2539) jI_379_2524 rfl (by decide +kernel) rfl ?_
  refine jT_xgoto (pcN := 3740) jI_379_2539 rfl ?_
  refine jT_xiinc (x := 0) (z := 5) (LN := [(5, (0, 5)), (7, (0, 0)), (6, (0, 1)), (4, (4, 3)), (3, (4, 2)), (2, (4, 1)), (1, (4, 0)), (0, (6, 0))]) (pcN := 3743) jI_379_3740 rfl rfl (by decide) rfl rfl ?_
  refine jT_xgoto (pcN := 28) jI_379_3743 rfl ?_
  refine jT_xiload (v := (0, 5)) (pcN := 30) jI_379_28 rfl rfl rfl ?_
  refine jT_xaload_n (v := (6, 0)) (pcN := 31) jI_379_30 rfl rfl rfl ?_
  refine jT_adv 1 (pcN := 32) (LN := [(5, (0, 5)), (7, (0, 0)), (6, (0, 1)), (4, (4, 3)), (3, (4, 2)), (2, (4, 1)), (1, (4, 0)), (0, (6, 0))]) (stN := [(0, 5), (0, 5)]) (hsN := jpA_1924) (c1 := 0) (s1 := 0) (c2 := 0) (s2 := 0) (by exact rfl) ?_ (by omega) (by omega)
  refine jT_xiconst (k := 5) (pcN := 33) jI_379_32 rfl ?_
  refine jT_xisub (x := 5) (y := 5) (z := 0) (pcN := 34) jI_379_33 rfl (by decide) rfl ?_
  refine jT_xicT (pcN := 3746) jI_379_34 rfl (by decide +kernel) rfl ?_
  refine jT_xiconst (k := 1) (pcN := 3747) jI_379_3746 rfl ?_
  exact jT_ret rfl (by decide) (by show 41 ≤ 41; decide) (by omega) (by omega) ⟨rfl, rfl⟩
set_option maxRecDepth 100000 in
theorem jL_32_7 {d : Nat} {x0 x1 x2 x3 x4 : Int} (h_x0 : (-2147483648) ≤ x0 ∧ x0 ≤ 2147483647) (h_x1 : 2 ≤ x1 ∧ x1 ≤ 2) (h_x2 : (-2147483648) ≤ x2 ∧ x2 ≤ (-1)) (h_x3 : (-2147483648) ≤ x3 ∧ x3 ≤ 2147483647) (h_x4 : (-2147483648) ≤ x4 ∧ x4 ≤ 2147483647) : jT [x0, x1, x2, x3, x4] (d + 3) 379 41 2474 [(5, (0, 0)), (4, (4, 3)), (3, (4, 2)), (2, (4, 1)), (1, (4, 0)), (0, (6, 0))] [] jpA_1928 1 6 (fun k v hsN => k = 0 ∧ v = (0, 1)) := by
  refine jT_xaload_n (v := (4, 0)) (pcN := 2475) jI_379_2474 rfl rfl rfl ?_
  refine jT_xaload_n (v := (6, 0)) (pcN := 2476) jI_379_2475 rfl rfl rfl ?_
  refine jT_xiload (v := (0, 0)) (pcN := 2478) jI_379_2476 rfl rfl rfl ?_
  refine jT_xiconst (k := 1) (pcN := 2479) jI_379_2478 rfl ?_
  refine jT_xiadd (x := 0) (y := 1) (z := 1) (pcN := 2480) jI_379_2479 rfl (by decide) rfl ?_
  refine jT_adv 1 (pcN := 2481) (LN := [(5, (0, 0)), (4, (4, 3)), (3, (4, 2)), (2, (4, 1)), (1, (4, 0)), (0, (6, 0))]) (stN := [(0, x1), (4, 0)]) (hsN := jpA_1928) (c1 := 0) (s1 := 0) (c2 := 1) (s2 := 6) (by exact rfl) ?_ (by omega) (by omega)
  refine jT_eq (LN := [(5, (0, 0)), (4, (4, 3)), (3, (4, 2)), (2, (4, 1)), (1, (4, 0)), (0, (6, 0))]) (stN := [(0, 2), (4, 0)]) (hsN := [jzA_265, jzA_266, jgh, jgh, jgh, jgh, jgh, jgh, jgh, jgh, jgh, jgh, jgh, jgh, jzA_322, (100, [], jS0), jgh, jgh, jgh, jgh, jgh, jgh, jgh, jgh, jgh, jgh, jgh, jgh, jgh, jgh, jgh, (117, [], [35, 36, 37, 38]), jgh, jgh, jgh, jgh, jgh, (7, [(4, 39), (4, (-1)), (4, (-1))], []), jgh, (114, [], [40]), jgh]) (rfl) (by simp only [List.cons.injEq, Prod.mk.injEq, and_true, true_and] <;> ((try unfold jw); (try unfold jwl); omega)) (rfl) ?_
  refine jT_xaload_n (v := (6, 0)) (pcN := 2482) jI_379_2481 rfl rfl rfl ?_
  refine jT_xiload (v := (0, 0)) (pcN := 2484) jI_379_2482 rfl rfl rfl ?_
  refine jT_xiconst (k := 2) (pcN := 2485) jI_379_2484 rfl ?_
  refine jT_xiadd (x := 0) (y := 2) (z := 2) (pcN := 2486) jI_379_2485 rfl (by decide) rfl ?_
  refine jT_adv 1 (pcN := 2487) (LN := [(5, (0, 0)), (4, (4, 3)), (3, (4, 2)), (2, (4, 1)), (1, (4, 0)), (0, (6, 0))]) (stN := [(0, x2), (0, 2), (4, 0)]) (hsN := jpA_1928) (c1 := 0) (s1 := 0) (c2 := 1) (s2 := 6) (by exact rfl) ?_ (by omega) (by omega)
  refine jT_xaload_n (v := (4, 2)) (pcN := 2488) jI_379_2487 rfl rfl rfl ?_
  refine jT_fR [0, 2, 4, 5, 6, 7, 8, 9, 10, 11, 12, 13, 14, 30, 31, 32, 33, 34, 35, 36, 37, 38, 39, 40] 41 (y := 356) (pcN := 2491) (dC := 2) (bc1 := 1) (bc2 := 6) (c1 := 0) (c2 := 0) (as := [(4, 0), (0, 2), (0, x2), (4, 2)]) (asC := [(4, 0), (0, 2), (0, x2), (4, 1)]) (LN := [(5, (0, 0)), (4, (4, 3)), (3, (4, 2)), (2, (4, 1)), (1, (4, 0)), (0, (6, 0))]) (stN := []) (hsC := jpA_1859) (v := (0, 1)) (st2 := [(0, 1)]) (jA_356_1068 (d := 0) (by omega)) (by rfl) (by rfl) (by decide +kernel) (by rfl) (by rfl) (by omega) (by omega) (by omega) (by omega) rfl ?_
  refine jT_xistore (v := (0, 1)) (LN := [(6, (0, 1)), (5, (0, 0)), (4, (4, 3)), (3, (4, 2)), (2, (4, 1)), (1, (4, 0)), (0, (6, 0))]) (pcN := 2493) jI_379_2491 rfl rfl rfl rfl ?_
  refine jT_xaload_n (v := (4, 1)) (pcN := 2494) jI_379_2493 rfl rfl rfl ?_
  refine jT_xaload_n (v := (6, 0)) (pcN := 2495) jI_379_2494 rfl rfl rfl ?_
  refine jT_xiload (v := (0, 0)) (pcN := 2497) jI_379_2495 rfl rfl rfl ?_
  refine jT_xiconst (k := 1) (pcN := 2498) jI_379_2497 rfl ?_
  refine jT_xiadd (x := 0) (y := 1) (z := 1) (pcN := 2499) jI_379_2498 rfl (by decide) rfl ?_
  refine jT_adv 1 (pcN := 2500) (LN := [(6, (0, 1)), (5, (0, 0)), (4, (4, 3)), (3, (4, 2)), (2, (4, 1)), (1, (4, 0)), (0, (6, 0))]) (stN := [(0, x1), (4, 1)]) (hsN := jpA_1928) (c1 := 0) (s1 := 0) (c2 := 0) (s2 := 0) (by exact rfl) ?_ (by omega) (by omega)
  refine jT_eq (LN := [(6, (0, 1)), (5, (0, 0)), (4, (4, 3)), (3, (4, 2)), (2, (4, 1)), (1, (4, 0)), (0, (6, 0))]) (stN := [(0, 2), (4, 1)]) (hsN := [jzA_265, jzA_266, jgh, jgh, jgh, jgh, jgh, jgh, jgh, jgh, jgh, jgh, jgh, jgh, jzA_322, (100, [], jS0), jgh, jgh, jgh, jgh, jgh, jgh, jgh, jgh, jgh, jgh, jgh, jgh, jgh, jgh, jgh, (117, [], [35, 36, 37, 38]), jgh, jgh, jgh, jgh, jgh, (7, [(4, 39), (4, (-1)), (4, (-1))], []), jgh, (114, [], [40]), jgh]) (rfl) (by simp only [List.cons.injEq, Prod.mk.injEq, and_true, true_and] <;> ((try unfold jw); (try unfold jwl); omega)) (rfl) ?_
  refine jT_xaload_n (v := (6, 0)) (pcN := 2501) jI_379_2500 rfl rfl rfl ?_
  refine jT_xiload (v := (0, 0)) (pcN := 2503) jI_379_2501 rfl rfl rfl ?_
  refine jT_xiconst (k := 2) (pcN := 2504) jI_379_2503 rfl ?_
  refine jT_xiadd (x := 0) (y := 2) (z := 2) (pcN := 2505) jI_379_2504 rfl (by decide) rfl ?_
  refine jT_adv 1 (pcN := 2506) (LN := [(6, (0, 1)), (5, (0, 0)), (4, (4, 3)), (3, (4, 2)), (2, (4, 1)), (1, (4, 0)), (0, (6, 0))]) (stN := [(0, x2), (0, 2), (4, 1)]) (hsN := jpA_1928) (c1 := 0) (s1 := 0) (c2 := 0) (s2 := 0) (by exact rfl) ?_ (by omega) (by omega)
  refine jT_fB [1, 15, 16, 17, 18, 19, 20, 21, 22, 23, 24, 25, 26, 27, 28, 29] 41 (y := 283) (pcN := 2509) (dC := 2) (bc1 := 0) (bc2 := 0) (c1 := 0) (c2 := 0) (as := [(4, 1), (0, 2), (0, x2)]) (asC := [(4, 0), (0, 2), (0, x2)]) (LN := [(6, (0, 1)), (5, (0, 0)), (4, (4, 3)), (3, (4, 2)), (2, (4, 1)), (1, (4, 0)), (0, (6, 0))]) (stN := []) (hsC := jpA_1519) (hsD := jpA_1820) (v := (0, 0)) (st2 := [(0, 0)]) (hs2 := jpA_1929) (jA_283_1069 (d := 0) (by omega)) (by rfl) (by rfl) (by decide +kernel) (by rfl) (by rfl) (by omega) (by omega) (by omega) (by omega) rfl (by decide +kernel) ?_
  refine jT_xistore (v := (0, 0)) (LN := [(7, (0, 0)), (6, (0, 1)), (5, (0, 0)), (4, (4, 3)), (3, (4, 2)), (2, (4, 1)), (1, (4, 0)), (0, (6, 0))]) (pcN := 2511) jI_379_2509 rfl rfl rfl rfl ?_
  refine jT_xaload_n (v := (4, 1)) (pcN := 2512) jI_379_2511 rfl rfl rfl ?_
  refine jT_fR [1, 15, 16, 17, 18, 19, 20, 21, 22, 23, 24, 25, 26, 27, 28, 29] 41 (y := 186) (pcN := 2515) (dC := 0) (bc1 := 0) (bc2 := 0) (c1 := 0) (c2 := 0) (as := [(4, 1)]) (asC := [(4, 0)]) (LN := [(7, (0, 0)), (6, (0, 1)), (5, (0, 0)), (4, (4, 3)), (3, (4, 2)), (2, (4, 1)), (1, (4, 0)), (0, (6, 0))]) (stN := []) (hsC := jpA_20) (v := (0, 1)) (st2 := [(0, 1)]) (jA_186_8 (d := 0)) (by rfl) (by rfl) (by decide +kernel) (by rfl) (by rfl) (by omega) (by omega) (by omega) (by omega) rfl ?_
  refine jT_xiload (v := (0, 1)) (pcN := 2517) jI_379_2515 rfl rfl rfl ?_
  refine jT_xicT (pcN := 2522) jI_379_2517 rfl (by decide +kernel) rfl ?_
  refine jT_xiload (v := (0, 1)) (pcN := 2524) jI_379_2522 rfl rfl rfl ?_
  refine jT_xifT (pcN := 2539) jI_379_2524 rfl (by decide +kernel) rfl ?_
  refine jT_xgoto (pcN := 3740) jI_379_2539 rfl ?_
  refine jT_xiinc (x := 0) (z := 5) (LN := [(5, (0, 5)), (7, (0, 0)), (6, (0, 1)), (4, (4, 3)), (3, (4, 2)), (2, (4, 1)), (1, (4, 0)), (0, (6, 0))]) (pcN := 3743) jI_379_3740 rfl rfl (by decide) rfl rfl ?_
  refine jT_xgoto (pcN := 28) jI_379_3743 rfl ?_
  refine jT_xiload (v := (0, 5)) (pcN := 30) jI_379_28 rfl rfl rfl ?_
  refine jT_xaload_n (v := (6, 0)) (pcN := 31) jI_379_30 rfl rfl rfl ?_
  refine jT_adv 1 (pcN := 32) (LN := [(5, (0, 5)), (7, (0, 0)), (6, (0, 1)), (4, (4, 3)), (3, (4, 2)), (2, (4, 1)), (1, (4, 0)), (0, (6, 0))]) (stN := [(0, 5), (0, 5)]) (hsN := jpA_1929) (c1 := 0) (s1 := 0) (c2 := 0) (s2 := 0) (by exact rfl) ?_ (by omega) (by omega)
  refine jT_xiconst (k := 5) (pcN := 33) jI_379_32 rfl ?_
  refine jT_xisub (x := 5) (y := 5) (z := 0) (pcN := 34) jI_379_33 rfl (by decide) rfl ?_
  refine jT_xicT (pcN := 3746) jI_379_34 rfl (by decide +kernel) rfl ?_
  refine jT_xiconst (k := 1) (pcN := 3747) jI_379_3746 rfl ?_
  exact jT_ret rfl (by decide) (by show 41 ≤ 41; decide) (by omega) (by omega) ⟨rfl, rfl⟩
def jpA_3887 : List JC := [jzA_265, jzA_266, (101, [], [0]), jgh, (8, [(4, 30), (4, 31)], []), jgh, jgh, jgh, jgh, jgh, jgh, jgh, jgh, jgh, jzA_721, (100, [], jS0), jgh, jgh, jgh, jgh, jgh, (101, [], [0, 0, 0, 0, 0, 0]), (100, [], (List.replicate 1792 0)), jgh, jgh, jgh, jgh, jgh, jgh, jgh, jgh, (101, [], [0, 0, 0, 0, 0, 0]), jgh, (117, [], [37, 38, 39, 40]), jgh, jgh, jgh, jgh, jgh, (7, [(4, 41), (4, 45), (4, 50)], []), jgh, (114, [], [42]), (4, [(4, 43), (1, 1)], []), (101, [], [0, 0, 0, 0, 0, 0]), (114, [], [49]), (114, [], [49]), (101, [], [0, 0, 0, 0, 0, 0]), (4, [(4, 46), (1, 1)], []), (101, [], [1, 0, 0, 0, 0, 0]), (4, [(4, 48), (1, 1)], []), (100, [], [0])]
def jpA_3888 : List JC := [jzA_265, jzA_3804, (101, [], [0]), jgh, (8, [(4, 30), (4, 31)], []), jgh, jgh, jgh, jgh, jgh, jgh, jgh, jgh, jgh, jzA_721, (100, [], jS0), jgh, jgh, jgh, jgh, jgh, (101, [], [1, 0, 0, 0, 0, 0]), jzA_3760, jgh, jgh, jgh, jgh, jgh, jgh, jgh, jgh, (101, [], [0, 0, 0, 0, 0, 0]), jgh, (117, [], [37, 38, 39, 40]), jgh, jgh, jgh, jgh, jgh, (7, [(4, 41), (4, 45), (4, 50)], []), jgh, (114, [], [42]), (4, [(4, 43), (1, 1)], []), (101, [], [0, 0, 0, 0, 0, 0]), (114, [], [49]), (114, [], [49]), (101, [], [0, 0, 0, 0, 0, 0]), (4, [(4, 46), (1, 1)], []), (101, [], [1, 0, 0, 0, 0, 0]), (4, [(4, 48), (1, 1)], []), (100, [], [0])]
set_option maxRecDepth 100000 in
theorem jL_32_8 {d : Nat} {x0 x1 x2 x3 x4 : Int} (h_x0 : (-2147483648) ≤ x0 ∧ x0 ≤ 2147483647) (h_x1 : 2 ≤ x1 ∧ x1 ≤ 2) (h_x2 : 0 ≤ x2 ∧ x2 ≤ 0) (h_x3 : (-2147483648) ≤ x3 ∧ x3 ≤ 2147483647) (h_x4 : (-2147483648) ≤ x4 ∧ x4 ≤ 2147483647) : jT [x0, x1, x2, x3, x4] (d + 8) 379 44 2474 [(5, (0, 0)), (4, (4, 3)), (3, (4, 2)), (2, (4, 1)), (1, (4, 0)), (0, (6, 0))] [] jpA_3815 7 19 (fun k v hsN => k = 0 ∧ v = (0, 1)) := by
  refine jT_xaload_n (v := (4, 0)) (pcN := 2475) jI_379_2474 rfl rfl rfl ?_
  refine jT_xaload_n (v := (6, 0)) (pcN := 2476) jI_379_2475 rfl rfl rfl ?_
  refine jT_xiload (v := (0, 0)) (pcN := 2478) jI_379_2476 rfl rfl rfl ?_
  refine jT_xiconst (k := 1) (pcN := 2479) jI_379_2478 rfl ?_
  refine jT_xiadd (x := 0) (y := 1) (z := 1) (pcN := 2480) jI_379_2479 rfl (by decide) rfl ?_
  refine jT_adv 1 (pcN := 2481) (LN := [(5, (0, 0)), (4, (4, 3)), (3, (4, 2)), (2, (4, 1)), (1, (4, 0)), (0, (6, 0))]) (stN := [(0, x1), (4, 0)]) (hsN := jpA_3815) (c1 := 0) (s1 := 0) (c2 := 7) (s2 := 19) (by exact rfl) ?_ (by omega) (by omega)
  refine jT_eq (LN := [(5, (0, 0)), (4, (4, 3)), (3, (4, 2)), (2, (4, 1)), (1, (4, 0)), (0, (6, 0))]) (stN := [(0, 2), (4, 0)]) (hsN := [jzA_265, jzA_266, (101, [], [0]), jgh, (8, [(4, 30), (4, 31)], []), jgh, jgh, jgh, jgh, jgh, jgh, jgh, jgh, jgh, jzA_721, (100, [], jS0), jgh, jgh, jgh, jgh, jgh, (101, [], [0, 0, 0, 0, 0, 0]), (100, [], (List.replicate 1792 0)), jgh, jgh, jgh, jgh, jgh, jgh, jgh, jgh, (101, [], [0, 0, 0, 0, 0, 0]), jgh, (117, [], [37, 38, 39, 40]), jgh, jgh, jgh, jgh, jgh, (7, [(4, 41), (4, (-1)), (4, (-1))], []), jgh, (114, [], [42]), (4, [(4, 43), (1, 1)], []), (101, [], [0, 0, 0, 0, 0, 0])]) (rfl) (by simp only [List.cons.injEq, Prod.mk.injEq, and_true, true_and] <;> ((try unfold jw); (try unfold jwl); omega)) (rfl) ?_
  refine jT_xaload_n (v := (6, 0)) (pcN := 2482) jI_379_2481 rfl rfl rfl ?_
  refine jT_xiload (v := (0, 0)) (pcN := 2484) jI_379_2482 rfl rfl rfl ?_
  refine jT_xiconst (k := 2) (pcN := 2485) jI_379_2484 rfl ?_
  refine jT_xiadd (x := 0) (y := 2) (z := 2) (pcN := 2486) jI_379_2485 rfl (by decide) rfl ?_
  refine jT_adv 1 (pcN := 2487) (LN := [(5, (0, 0)), (4, (4, 3)), (3, (4, 2)), (2, (4, 1)), (1, (4, 0)), (0, (6, 0))]) (stN := [(0, x2), (0, 2), (4, 0)]) (hsN := jpA_3815) (c1 := 0) (s1 := 0) (c2 := 7) (s2 := 19) (by exact rfl) ?_ (by omega) (by omega)
  refine jT_eq (LN := [(5, (0, 0)), (4, (4, 3)), (3, (4, 2)), (2, (4, 1)), (1, (4, 0)), (0, (6, 0))]) (stN := [(0, 0), (0, 2), (4, 0)]) (hsN := [jzA_265, jzA_266, (101, [], [0]), jgh, (8, [(4, 30), (4, 31)], []), jgh, jgh, jgh, jgh, jgh, jgh, jgh, jgh, jgh, jzA_721, (100, [], jS0), jgh, jgh, jgh, jgh, jgh, (101, [], [0, 0, 0, 0, 0, 0]), (100, [], (List.replicate 1792 0)), jgh, jgh, jgh, jgh, jgh, jgh, jgh, jgh, (101, [], [0, 0, 0, 0, 0, 0]), jgh, (117, [], [37, 38, 39, 40]), jgh, jgh, jgh, jgh, jgh, (7, [(4, 41), (4, (-1)), (4, (-1))], []), jgh, (114, [], [42]), (4, [(4, 43), (1, 1)], []), (101, [], [0, 0, 0, 0, 0, 0])]) (rfl) (by simp only [List.cons.injEq, Prod.mk.injEq, and_true, true_and] <;> ((try unfold jw); (try unfold jwl); omega)) (rfl) ?_
  refine jT_xaload_n (v := (4, 2)) (pcN := 2488) jI_379_2487 rfl rfl rfl ?_
  refine jT_fB [0, 2, 4, 5, 6, 7, 8, 9, 10, 11, 12, 13, 14, 30, 31, 32, 33, 34, 35, 36, 37, 38, 39, 40, 41, 42, 43] 44 (y := 356) (pcN := 2491) (dC := 7) (bc1 := 7) (bc2 := 19) (c1 := 0) (c2 := 0) (as := [(4, 0), (0, 2), (0, 0), (4, 2)]) (asC := [(4, 0), (0, 2), (0, 0), (4, 1)]) (LN := [(5, (0, 0)), (4, (4, 3)), (3, (4, 2)), (2, (4, 1)), (1, (4, 0)), (0, (6, 0))]) (stN := []) (hsC := jpA_3775) (hsD := jpA_3776) (v := (0, 0)) (st2 := [(0, 0)]) (hs2 := jpA_3887) (jA_356_1071 (d := 0)) (by rfl) (by rfl) (by decide +kernel) (by rfl) (by rfl) (by omega) (by omega) (by omega) (by omega) rfl (by decide +kernel) ?_
  refine jT_xistore (v := (0, 0)) (LN := [(6, (0, 0)), (5, (0, 0)), (4, (4, 3)), (3, (4, 2)), (2, (4, 1)), (1, (4, 0)), (0, (6, 0))]) (pcN := 2493) jI_379_2491 rfl rfl rfl rfl ?_
  refine jT_xaload_n (v := (4, 1)) (pcN := 2494) jI_379_2493 rfl rfl rfl ?_
  refine jT_xaload_n (v := (6, 0)) (pcN := 2495) jI_379_2494 rfl rfl rfl ?_
  refine jT_xiload (v := (0, 0)) (pcN := 2497) jI_379_2495 rfl rfl rfl ?_
  refine jT_xiconst (k := 1) (pcN := 2498) jI_379_2497 rfl ?_
  refine jT_xiadd (x := 0) (y := 1) (z := 1) (pcN := 2499) jI_379_2498 rfl (by decide) rfl ?_
  refine jT_adv 1 (pcN := 2500) (LN := [(6, (0, 0)), (5, (0, 0)), (4, (4, 3)), (3, (4, 2)), (2, (4, 1)), (1, (4, 0)), (0, (6, 0))]) (stN := [(0, x1), (4, 1)]) (hsN := jpA_3887) (c1 := 0) (s1 := 0) (c2 := 0) (s2 := 0) (by exact rfl) ?_ (by omega) (by omega)
  refine jT_eq (LN := [(6, (0, 0)), (5, (0, 0)), (4, (4, 3)), (3, (4, 2)), (2, (4, 1)), (1, (4, 0)), (0, (6, 0))]) (stN := [(0, 2), (4, 1)]) (hsN := [jzA_265, jzA_266, (101, [], [0]), jgh, (8, [(4, 30), (4, 31)], []), jgh, jgh, jgh, jgh, jgh, jgh, jgh, jgh, jgh, jzA_721, (100, [], jS0), jgh, jgh, jgh, jgh, jgh, (101, [], [0, 0, 0, 0, 0, 0]), (100, [], (List.replicate 1792 0)), jgh, jgh, jgh, jgh, jgh, jgh, jgh, jgh, (101, [], [0, 0, 0, 0, 0, 0]), jgh, (117, [], [37, 38, 39, 40]), jgh, jgh, jgh, jgh, jgh, (7, [(4, 41), (4, 45), (4, 50)], []), jgh, (114, [], [42]), (4, [(4, 43), (1, 1)], []), (101, [], [0, 0, 0, 0, 0, 0]), (114, [], [49]), (114, [], [49]), (101, [], [0, 0, 0, 0, 0, 0]), (4, [(4, 46), (1, 1)], []), (101, [], [1, 0, 0, 0, 0, 0]), (4, [(4, 48), (1, 1)], []), (100, [], [0])]) (rfl) (by simp only [List.cons.injEq, Prod.mk.injEq, and_true, true_and] <;> ((try unfold jw); (try unfold jwl); omega)) (rfl) ?_
  refine jT_xaload_n (v := (6, 0)) (pcN := 2501) jI_379_2500 rfl rfl rfl ?_
  refine jT_xiload (v := (0, 0)) (pcN := 2503) jI_379_2501 rfl rfl rfl ?_
  refine jT_xiconst (k := 2) (pcN := 2504) jI_379_2503 rfl ?_
  refine jT_xiadd (x := 0) (y := 2) (z := 2) (pcN := 2505) jI_379_2504 rfl (by decide) rfl ?_
  refine jT_adv 1 (pcN := 2506) (LN := [(6, (0, 0)), (5, (0, 0)), (4, (4, 3)), (3, (4, 2)), (2, (4, 1)), (1, (4, 0)), (0, (6, 0))]) (stN := [(0, x2), (0, 2), (4, 1)]) (hsN := jpA_3887) (c1 := 0) (s1 := 0) (c2 := 0) (s2 := 0) (by exact rfl) ?_ (by omega) (by omega)
  refine jT_eq (LN := [(6, (0, 0)), (5, (0, 0)), (4, (4, 3)), (3, (4, 2)), (2, (4, 1)), (1, (4, 0)), (0, (6, 0))]) (stN := [(0, 0), (0, 2), (4, 1)]) (hsN := [jzA_265, jzA_266, (101, [], [0]), jgh, (8, [(4, 30), (4, 31)], []), jgh, jgh, jgh, jgh, jgh, jgh, jgh, jgh, jgh, jzA_721, (100, [], jS0), jgh, jgh, jgh, jgh, jgh, (101, [], [0, 0, 0, 0, 0, 0]), (100, [], (List.replicate 1792 0)), jgh, jgh, jgh, jgh, jgh, jgh, jgh, jgh, (101, [], [0, 0, 0, 0, 0, 0]), jgh, (117, [], [37, 38, 39, 40]), jgh, jgh, jgh, jgh, jgh, (7, [(4, 41), (4, 45), (4, 50)], []), jgh, (114, [], [42]), (4, [(4, 43), (1, 1)], []), (101, [], [0, 0, 0, 0, 0, 0]), (114, [], [49]), (114, [], [49]), (101, [], [0, 0, 0, 0, 0, 0]), (4, [(4, 46), (1, 1)], []), (101, [], [1, 0, 0, 0, 0, 0]), (4, [(4, 48), (1, 1)], []), (100, [], [0])]) (rfl) (by simp only [List.cons.injEq, Prod.mk.injEq, and_true, true_and] <;> ((try unfold jw); (try unfold jwl); omega)) (rfl) ?_
  refine jT_fB [1, 15, 16, 17, 18, 19, 20, 21, 22, 23, 24, 25, 26, 27, 28, 29] 51 (y := 283) (pcN := 2509) (dC := 6) (bc1 := 0) (bc2 := 0) (c1 := 0) (c2 := 0) (as := [(4, 1), (0, 2), (0, 0)]) (asC := [(4, 0), (0, 2), (0, 0)]) (LN := [(6, (0, 0)), (5, (0, 0)), (4, (4, 3)), (3, (4, 2)), (2, (4, 1)), (1, (4, 0)), (0, (6, 0))]) (stN := []) (hsC := jpA_1840) (hsD := jpA_3766) (v := (0, 0)) (st2 := [(0, 0)]) (hs2 := jpA_3888) (jA_283_1076 (d := 0)) (by rfl) (by rfl) (by decide +kernel) (by rfl) (by rfl) (by omega) (by omega) (by omega) (by omega) rfl (by decide +kernel) ?_
  refine jT_xistore (v := (0, 0)) (LN := [(7, (0, 0)), (6, (0, 0)), (5, (0, 0)), (4, (4, 3)), (3, (4, 2)), (2, (4, 1)), (1, (4, 0)), (0, (6, 0))]) (pcN := 2511) jI_379_2509 rfl rfl rfl rfl ?_
  refine jT_xaload_n (v := (4, 1)) (pcN := 2512) jI_379_2511 rfl rfl rfl ?_
  refine jT_fR [1, 15, 16, 17, 18, 19, 20, 21, 22, 23, 24, 25, 26, 27, 28, 29] 51 (y := 186) (pcN := 2515) (dC := 0) (bc1 := 0) (bc2 := 0) (c1 := 0) (c2 := 0) (as := [(4, 1)]) (asC := [(4, 0)]) (LN := [(7, (0, 0)), (6, (0, 0)), (5, (0, 0)), (4, (4, 3)), (3, (4, 2)), (2, (4, 1)), (1, (4, 0)), (0, (6, 0))]) (stN := []) (hsC := jpA_3767) (v := (0, 0)) (st2 := [(0, 0)]) (jA_186_1020 (d := 0)) (by rfl) (by rfl) (by decide +kernel) (by rfl) (by rfl) (by omega) (by omega) (by omega) (by omega) rfl ?_
  refine jT_xiload (v := (0, 0)) (pcN := 2517) jI_379_2515 rfl rfl rfl ?_
  refine jT_xicT (pcN := 2522) jI_379_2517 rfl (by decide +kernel) rfl ?_
  refine jT_xiload (v := (0, 0)) (pcN := 2524) jI_379_2522 rfl rfl rfl ?_
  refine jT_xifF (t := 2539) (pcN := 2527) jI_379_2524 rfl (by decide +kernel) rfl rfl ?_
  refine jT_xaload_n (v := (4, 2)) (pcN := 2528) jI_379_2527 rfl rfl rfl ?_
  refine jT_xiconst (k := 0) (pcN := 2529) jI_379_2528 rfl ?_
  refine jT_lald (x := 0) (a := 2) (j := 0) (fs := []) (X := [0]) jI_379_2529 rfl rfl rfl rfl ?_
  refine jT_eq (LN := [(7, (0, 0)), (6, (0, 0)), (5, (0, 0)), (4, (4, 3)), (3, (4, 2)), (2, (4, 1)), (1, (4, 0)), (0, (6, 0))]) (stN := [(1, 0)]) (hsN := jpA_3888) rfl rfl rfl ?_
  refine jT_xiload (v := (0, 0)) (pcN := 2532) jI_379_2530 rfl rfl rfl ?_
  refine jT_xi2l (x := 0) (z := 0) (pcN := 2533) jI_379_2532 rfl (by decide +kernel) rfl ?_
  refine jT_lcmp (a := 0) (b := 0) (z := 0) (by rfl) (by rfl) (by decide +kernel) (by decide +kernel) (by decide) ?_
  refine jT_xifT (pcN := 2539) jI_379_2534 rfl (by decide +kernel) rfl ?_
  refine jT_xgoto (pcN := 3740) jI_379_2539 rfl ?_
  refine jT_xiinc (x := 0) (z := 5) (LN := [(5, (0, 5)), (7, (0, 0)), (6, (0, 0)), (4, (4, 3)), (3, (4, 2)), (2, (4, 1)), (1, (4, 0)), (0, (6, 0))]) (pcN := 3743) jI_379_3740 rfl rfl (by decide) rfl rfl ?_
  refine jT_xgoto (pcN := 28) jI_379_3743 rfl ?_
  refine jT_xiload (v := (0, 5)) (pcN := 30) jI_379_28 rfl rfl rfl ?_
  refine jT_xaload_n (v := (6, 0)) (pcN := 31) jI_379_30 rfl rfl rfl ?_
  refine jT_adv 1 (pcN := 32) (LN := [(5, (0, 5)), (7, (0, 0)), (6, (0, 0)), (4, (4, 3)), (3, (4, 2)), (2, (4, 1)), (1, (4, 0)), (0, (6, 0))]) (stN := [(0, 5), (0, 5)]) (hsN := jpA_3888) (c1 := 0) (s1 := 0) (c2 := 0) (s2 := 0) (by exact rfl) ?_ (by omega) (by omega)
  refine jT_xiconst (k := 5) (pcN := 33) jI_379_32 rfl ?_
  refine jT_xisub (x := 5) (y := 5) (z := 0) (pcN := 34) jI_379_33 rfl (by decide) rfl ?_
  refine jT_xicT (pcN := 3746) jI_379_34 rfl (by decide +kernel) rfl ?_
  refine jT_xiconst (k := 1) (pcN := 3747) jI_379_3746 rfl ?_
  exact jT_ret rfl (by decide) (by show 44 ≤ 51; decide) (by omega) (by omega) ⟨rfl, rfl⟩
set_option maxRecDepth 100000 in
theorem jL_32_9 {d : Nat} {x0 x1 x2 x3 x4 : Int} (h_x0 : (-2147483648) ≤ x0 ∧ x0 ≤ 2147483647) (h_x1 : 2 ≤ x1 ∧ x1 ≤ 2) (h_x2 : 1 ≤ x2 ∧ x2 ≤ 2147483647) (h_x3 : (-2147483648) ≤ x3 ∧ x3 ≤ 2147483647) (h_x4 : (-2147483648) ≤ x4 ∧ x4 ≤ 2147483647) : jT [x0, x1, x2, x3, x4] (d + 3) 379 41 2474 [(5, (0, 0)), (4, (4, 3)), (3, (4, 2)), (2, (4, 1)), (1, (4, 0)), (0, (6, 0))] [] jpA_1928 1 6 (fun k v hsN => k = 0 ∧ v = (0, 1)) := by
  refine jT_xaload_n (v := (4, 0)) (pcN := 2475) jI_379_2474 rfl rfl rfl ?_
  refine jT_xaload_n (v := (6, 0)) (pcN := 2476) jI_379_2475 rfl rfl rfl ?_
  refine jT_xiload (v := (0, 0)) (pcN := 2478) jI_379_2476 rfl rfl rfl ?_
  refine jT_xiconst (k := 1) (pcN := 2479) jI_379_2478 rfl ?_
  refine jT_xiadd (x := 0) (y := 1) (z := 1) (pcN := 2480) jI_379_2479 rfl (by decide) rfl ?_
  refine jT_adv 1 (pcN := 2481) (LN := [(5, (0, 0)), (4, (4, 3)), (3, (4, 2)), (2, (4, 1)), (1, (4, 0)), (0, (6, 0))]) (stN := [(0, x1), (4, 0)]) (hsN := jpA_1928) (c1 := 0) (s1 := 0) (c2 := 1) (s2 := 6) (by exact rfl) ?_ (by omega) (by omega)
  refine jT_eq (LN := [(5, (0, 0)), (4, (4, 3)), (3, (4, 2)), (2, (4, 1)), (1, (4, 0)), (0, (6, 0))]) (stN := [(0, 2), (4, 0)]) (hsN := [jzA_265, jzA_266, jgh, jgh, jgh, jgh, jgh, jgh, jgh, jgh, jgh, jgh, jgh, jgh, jzA_322, (100, [], jS0), jgh, jgh, jgh, jgh, jgh, jgh, jgh, jgh, jgh, jgh, jgh, jgh, jgh, jgh, jgh, (117, [], [35, 36, 37, 38]), jgh, jgh, jgh, jgh, jgh, (7, [(4, 39), (4, (-1)), (4, (-1))], []), jgh, (114, [], [40]), jgh]) (rfl) (by simp only [List.cons.injEq, Prod.mk.injEq, and_true, true_and] <;> ((try unfold jw); (try unfold jwl); omega)) (rfl) ?_
  refine jT_xaload_n (v := (6, 0)) (pcN := 2482) jI_379_2481 rfl rfl rfl ?_
  refine jT_xiload (v := (0, 0)) (pcN := 2484) jI_379_2482 rfl rfl rfl ?_
  refine jT_xiconst (k := 2) (pcN := 2485) jI_379_2484 rfl ?_
  refine jT_xiadd (x := 0) (y := 2) (z := 2) (pcN := 2486) jI_379_2485 rfl (by decide) rfl ?_
  refine jT_adv 1 (pcN := 2487) (LN := [(5, (0, 0)), (4, (4, 3)), (3, (4, 2)), (2, (4, 1)), (1, (4, 0)), (0, (6, 0))]) (stN := [(0, x2), (0, 2), (4, 0)]) (hsN := jpA_1928) (c1 := 0) (s1 := 0) (c2 := 1) (s2 := 6) (by exact rfl) ?_ (by omega) (by omega)
  refine jT_xaload_n (v := (4, 2)) (pcN := 2488) jI_379_2487 rfl rfl rfl ?_
  refine jT_fR [0, 2, 4, 5, 6, 7, 8, 9, 10, 11, 12, 13, 14, 30, 31, 32, 33, 34, 35, 36, 37, 38, 39, 40] 41 (y := 356) (pcN := 2491) (dC := 2) (bc1 := 1) (bc2 := 6) (c1 := 0) (c2 := 0) (as := [(4, 0), (0, 2), (0, x2), (4, 2)]) (asC := [(4, 0), (0, 2), (0, x2), (4, 1)]) (LN := [(5, (0, 0)), (4, (4, 3)), (3, (4, 2)), (2, (4, 1)), (1, (4, 0)), (0, (6, 0))]) (stN := []) (hsC := jpA_1859) (v := (0, 1)) (st2 := [(0, 1)]) (jA_356_1078 (d := 0) (by omega)) (by rfl) (by rfl) (by decide +kernel) (by rfl) (by rfl) (by omega) (by omega) (by omega) (by omega) rfl ?_
  refine jT_xistore (v := (0, 1)) (LN := [(6, (0, 1)), (5, (0, 0)), (4, (4, 3)), (3, (4, 2)), (2, (4, 1)), (1, (4, 0)), (0, (6, 0))]) (pcN := 2493) jI_379_2491 rfl rfl rfl rfl ?_
  refine jT_xaload_n (v := (4, 1)) (pcN := 2494) jI_379_2493 rfl rfl rfl ?_
  refine jT_xaload_n (v := (6, 0)) (pcN := 2495) jI_379_2494 rfl rfl rfl ?_
  refine jT_xiload (v := (0, 0)) (pcN := 2497) jI_379_2495 rfl rfl rfl ?_
  refine jT_xiconst (k := 1) (pcN := 2498) jI_379_2497 rfl ?_
  refine jT_xiadd (x := 0) (y := 1) (z := 1) (pcN := 2499) jI_379_2498 rfl (by decide) rfl ?_
  refine jT_adv 1 (pcN := 2500) (LN := [(6, (0, 1)), (5, (0, 0)), (4, (4, 3)), (3, (4, 2)), (2, (4, 1)), (1, (4, 0)), (0, (6, 0))]) (stN := [(0, x1), (4, 1)]) (hsN := jpA_1928) (c1 := 0) (s1 := 0) (c2 := 0) (s2 := 0) (by exact rfl) ?_ (by omega) (by omega)
  refine jT_eq (LN := [(6, (0, 1)), (5, (0, 0)), (4, (4, 3)), (3, (4, 2)), (2, (4, 1)), (1, (4, 0)), (0, (6, 0))]) (stN := [(0, 2), (4, 1)]) (hsN := [jzA_265, jzA_266, jgh, jgh, jgh, jgh, jgh, jgh, jgh, jgh, jgh, jgh, jgh, jgh, jzA_322, (100, [], jS0), jgh, jgh, jgh, jgh, jgh, jgh, jgh, jgh, jgh, jgh, jgh, jgh, jgh, jgh, jgh, (117, [], [35, 36, 37, 38]), jgh, jgh, jgh, jgh, jgh, (7, [(4, 39), (4, (-1)), (4, (-1))], []), jgh, (114, [], [40]), jgh]) (rfl) (by simp only [List.cons.injEq, Prod.mk.injEq, and_true, true_and] <;> ((try unfold jw); (try unfold jwl); omega)) (rfl) ?_
  refine jT_xaload_n (v := (6, 0)) (pcN := 2501) jI_379_2500 rfl rfl rfl ?_
  refine jT_xiload (v := (0, 0)) (pcN := 2503) jI_379_2501 rfl rfl rfl ?_
  refine jT_xiconst (k := 2) (pcN := 2504) jI_379_2503 rfl ?_
  refine jT_xiadd (x := 0) (y := 2) (z := 2) (pcN := 2505) jI_379_2504 rfl (by decide) rfl ?_
  refine jT_adv 1 (pcN := 2506) (LN := [(6, (0, 1)), (5, (0, 0)), (4, (4, 3)), (3, (4, 2)), (2, (4, 1)), (1, (4, 0)), (0, (6, 0))]) (stN := [(0, x2), (0, 2), (4, 1)]) (hsN := jpA_1928) (c1 := 0) (s1 := 0) (c2 := 0) (s2 := 0) (by exact rfl) ?_ (by omega) (by omega)
  refine jT_fB [1, 15, 16, 17, 18, 19, 20, 21, 22, 23, 24, 25, 26, 27, 28, 29] 41 (y := 283) (pcN := 2509) (dC := 2) (bc1 := 0) (bc2 := 0) (c1 := 0) (c2 := 0) (as := [(4, 1), (0, 2), (0, x2)]) (asC := [(4, 0), (0, 2), (0, x2)]) (LN := [(6, (0, 1)), (5, (0, 0)), (4, (4, 3)), (3, (4, 2)), (2, (4, 1)), (1, (4, 0)), (0, (6, 0))]) (stN := []) (hsC := jpA_1519) (hsD := jpA_1820) (v := (0, 0)) (st2 := [(0, 0)]) (hs2 := jpA_1929) (jA_283_1079 (d := 0) (by omega)) (by rfl) (by rfl) (by decide +kernel) (by rfl) (by rfl) (by omega) (by omega) (by omega) (by omega) rfl (by decide +kernel) ?_
  refine jT_xistore (v := (0, 0)) (LN := [(7, (0, 0)), (6, (0, 1)), (5, (0, 0)), (4, (4, 3)), (3, (4, 2)), (2, (4, 1)), (1, (4, 0)), (0, (6, 0))]) (pcN := 2511) jI_379_2509 rfl rfl rfl rfl ?_
  refine jT_xaload_n (v := (4, 1)) (pcN := 2512) jI_379_2511 rfl rfl rfl ?_
  refine jT_fR [1, 15, 16, 17, 18, 19, 20, 21, 22, 23, 24, 25, 26, 27, 28, 29] 41 (y := 186) (pcN := 2515) (dC := 0) (bc1 := 0) (bc2 := 0) (c1 := 0) (c2 := 0) (as := [(4, 1)]) (asC := [(4, 0)]) (LN := [(7, (0, 0)), (6, (0, 1)), (5, (0, 0)), (4, (4, 3)), (3, (4, 2)), (2, (4, 1)), (1, (4, 0)), (0, (6, 0))]) (stN := []) (hsC := jpA_20) (v := (0, 1)) (st2 := [(0, 1)]) (jA_186_8 (d := 0)) (by rfl) (by rfl) (by decide +kernel) (by rfl) (by rfl) (by omega) (by omega) (by omega) (by omega) rfl ?_
  refine jT_xiload (v := (0, 1)) (pcN := 2517) jI_379_2515 rfl rfl rfl ?_
  refine jT_xicT (pcN := 2522) jI_379_2517 rfl (by decide +kernel) rfl ?_
  refine jT_xiload (v := (0, 1)) (pcN := 2524) jI_379_2522 rfl rfl rfl ?_
  refine jT_xifT (pcN := 2539) jI_379_2524 rfl (by decide +kernel) rfl ?_
  refine jT_xgoto (pcN := 3740) jI_379_2539 rfl ?_
  refine jT_xiinc (x := 0) (z := 5) (LN := [(5, (0, 5)), (7, (0, 0)), (6, (0, 1)), (4, (4, 3)), (3, (4, 2)), (2, (4, 1)), (1, (4, 0)), (0, (6, 0))]) (pcN := 3743) jI_379_3740 rfl rfl (by decide) rfl rfl ?_
  refine jT_xgoto (pcN := 28) jI_379_3743 rfl ?_
  refine jT_xiload (v := (0, 5)) (pcN := 30) jI_379_28 rfl rfl rfl ?_
  refine jT_xaload_n (v := (6, 0)) (pcN := 31) jI_379_30 rfl rfl rfl ?_
  refine jT_adv 1 (pcN := 32) (LN := [(5, (0, 5)), (7, (0, 0)), (6, (0, 1)), (4, (4, 3)), (3, (4, 2)), (2, (4, 1)), (1, (4, 0)), (0, (6, 0))]) (stN := [(0, 5), (0, 5)]) (hsN := jpA_1929) (c1 := 0) (s1 := 0) (c2 := 0) (s2 := 0) (by exact rfl) ?_ (by omega) (by omega)
  refine jT_xiconst (k := 5) (pcN := 33) jI_379_32 rfl ?_
  refine jT_xisub (x := 5) (y := 5) (z := 0) (pcN := 34) jI_379_33 rfl (by decide) rfl ?_
  refine jT_xicT (pcN := 3746) jI_379_34 rfl (by decide +kernel) rfl ?_
  refine jT_xiconst (k := 1) (pcN := 3747) jI_379_3746 rfl ?_
  exact jT_ret rfl (by decide) (by show 41 ≤ 41; decide) (by omega) (by omega) ⟨rfl, rfl⟩
set_option maxRecDepth 100000 in
theorem jL_32_10 {d : Nat} {x0 x1 x2 x3 x4 : Int} (h_x0 : (-2147483648) ≤ x0 ∧ x0 ≤ 2147483647) (h_x1 : 3 ≤ x1 ∧ x1 ≤ 3) (h_x2 : (-2147483648) ≤ x2 ∧ x2 ≤ (-1)) (h_x3 : (-2147483648) ≤ x3 ∧ x3 ≤ 2147483647) (h_x4 : (-2147483648) ≤ x4 ∧ x4 ≤ 2147483647) : jT [x0, x1, x2, x3, x4] (d + 3) 379 41 2474 [(5, (0, 0)), (4, (4, 3)), (3, (4, 2)), (2, (4, 1)), (1, (4, 0)), (0, (6, 0))] [] jpA_1933 1 6 (fun k v hsN => k = 0 ∧ v = (0, 1)) := by
  refine jT_xaload_n (v := (4, 0)) (pcN := 2475) jI_379_2474 rfl rfl rfl ?_
  refine jT_xaload_n (v := (6, 0)) (pcN := 2476) jI_379_2475 rfl rfl rfl ?_
  refine jT_xiload (v := (0, 0)) (pcN := 2478) jI_379_2476 rfl rfl rfl ?_
  refine jT_xiconst (k := 1) (pcN := 2479) jI_379_2478 rfl ?_
  refine jT_xiadd (x := 0) (y := 1) (z := 1) (pcN := 2480) jI_379_2479 rfl (by decide) rfl ?_
  refine jT_adv 1 (pcN := 2481) (LN := [(5, (0, 0)), (4, (4, 3)), (3, (4, 2)), (2, (4, 1)), (1, (4, 0)), (0, (6, 0))]) (stN := [(0, x1), (4, 0)]) (hsN := jpA_1933) (c1 := 0) (s1 := 0) (c2 := 1) (s2 := 6) (by exact rfl) ?_ (by omega) (by omega)
  refine jT_eq (LN := [(5, (0, 0)), (4, (4, 3)), (3, (4, 2)), (2, (4, 1)), (1, (4, 0)), (0, (6, 0))]) (stN := [(0, 3), (4, 0)]) (hsN := [jzA_265, jzA_266, jgh, jgh, jgh, jgh, jgh, jgh, jgh, jgh, jgh, jgh, jgh, jgh, jzA_322, (100, [], jS0), jgh, jgh, jgh, jgh, jgh, jgh, jgh, jgh, jgh, jgh, jgh, jgh, jgh, jgh, jgh, (117, [], [35, 36, 37, 38]), jgh, jgh, jgh, jgh, jgh, jgh, (7, [(4, 39), (4, (-1)), (4, (-1))], []), (114, [], [40]), jgh]) (rfl) (by simp only [List.cons.injEq, Prod.mk.injEq, and_true, true_and] <;> ((try unfold jw); (try unfold jwl); omega)) (rfl) ?_
  refine jT_xaload_n (v := (6, 0)) (pcN := 2482) jI_379_2481 rfl rfl rfl ?_
  refine jT_xiload (v := (0, 0)) (pcN := 2484) jI_379_2482 rfl rfl rfl ?_
  refine jT_xiconst (k := 2) (pcN := 2485) jI_379_2484 rfl ?_
  refine jT_xiadd (x := 0) (y := 2) (z := 2) (pcN := 2486) jI_379_2485 rfl (by decide) rfl ?_
  refine jT_adv 1 (pcN := 2487) (LN := [(5, (0, 0)), (4, (4, 3)), (3, (4, 2)), (2, (4, 1)), (1, (4, 0)), (0, (6, 0))]) (stN := [(0, x2), (0, 3), (4, 0)]) (hsN := jpA_1933) (c1 := 0) (s1 := 0) (c2 := 1) (s2 := 6) (by exact rfl) ?_ (by omega) (by omega)
  refine jT_xaload_n (v := (4, 2)) (pcN := 2488) jI_379_2487 rfl rfl rfl ?_
  refine jT_fR [0, 2, 4, 5, 6, 7, 8, 9, 10, 11, 12, 13, 14, 30, 31, 32, 33, 34, 35, 36, 37, 38, 39, 40] 41 (y := 356) (pcN := 2491) (dC := 2) (bc1 := 1) (bc2 := 6) (c1 := 0) (c2 := 0) (as := [(4, 0), (0, 3), (0, x2), (4, 2)]) (asC := [(4, 0), (0, 3), (0, x2), (4, 1)]) (LN := [(5, (0, 0)), (4, (4, 3)), (3, (4, 2)), (2, (4, 1)), (1, (4, 0)), (0, (6, 0))]) (stN := []) (hsC := jpA_1872) (v := (0, 1)) (st2 := [(0, 1)]) (jA_356_1081 (d := 0) (by omega)) (by rfl) (by rfl) (by decide +kernel) (by rfl) (by rfl) (by omega) (by omega) (by omega) (by omega) rfl ?_
  refine jT_xistore (v := (0, 1)) (LN := [(6, (0, 1)), (5, (0, 0)), (4, (4, 3)), (3, (4, 2)), (2, (4, 1)), (1, (4, 0)), (0, (6, 0))]) (pcN := 2493) jI_379_2491 rfl rfl rfl rfl ?_
  refine jT_xaload_n (v := (4, 1)) (pcN := 2494) jI_379_2493 rfl rfl rfl ?_
  refine jT_xaload_n (v := (6, 0)) (pcN := 2495) jI_379_2494 rfl rfl rfl ?_
  refine jT_xiload (v := (0, 0)) (pcN := 2497) jI_379_2495 rfl rfl rfl ?_
  refine jT_xiconst (k := 1) (pcN := 2498) jI_379_2497 rfl ?_
  refine jT_xiadd (x := 0) (y := 1) (z := 1) (pcN := 2499) jI_379_2498 rfl (by decide) rfl ?_
  refine jT_adv 1 (pcN := 2500) (LN := [(6, (0, 1)), (5, (0, 0)), (4, (4, 3)), (3, (4, 2)), (2, (4, 1)), (1, (4, 0)), (0, (6, 0))]) (stN := [(0, x1), (4, 1)]) (hsN := jpA_1933) (c1 := 0) (s1 := 0) (c2 := 0) (s2 := 0) (by exact rfl) ?_ (by omega) (by omega)
  refine jT_eq (LN := [(6, (0, 1)), (5, (0, 0)), (4, (4, 3)), (3, (4, 2)), (2, (4, 1)), (1, (4, 0)), (0, (6, 0))]) (stN := [(0, 3), (4, 1)]) (hsN := [jzA_265, jzA_266, jgh, jgh, jgh, jgh, jgh, jgh, jgh, jgh, jgh, jgh, jgh, jgh, jzA_322, (100, [], jS0), jgh, jgh, jgh, jgh, jgh, jgh, jgh, jgh, jgh, jgh, jgh, jgh, jgh, jgh, jgh, (117, [], [35, 36, 37, 38]), jgh, jgh, jgh, jgh, jgh, jgh, (7, [(4, 39), (4, (-1)), (4, (-1))], []), (114, [], [40]), jgh]) (rfl) (by simp only [List.cons.injEq, Prod.mk.injEq, and_true, true_and] <;> ((try unfold jw); (try unfold jwl); omega)) (rfl) ?_
  refine jT_xaload_n (v := (6, 0)) (pcN := 2501) jI_379_2500 rfl rfl rfl ?_
  refine jT_xiload (v := (0, 0)) (pcN := 2503) jI_379_2501 rfl rfl rfl ?_
  refine jT_xiconst (k := 2) (pcN := 2504) jI_379_2503 rfl ?_
  refine jT_xiadd (x := 0) (y := 2) (z := 2) (pcN := 2505) jI_379_2504 rfl (by decide) rfl ?_
  refine jT_adv 1 (pcN := 2506) (LN := [(6, (0, 1)), (5, (0, 0)), (4, (4, 3)), (3, (4, 2)), (2, (4, 1)), (1, (4, 0)), (0, (6, 0))]) (stN := [(0, x2), (0, 3), (4, 1)]) (hsN := jpA_1933) (c1 := 0) (s1 := 0) (c2 := 0) (s2 := 0) (by exact rfl) ?_ (by omega) (by omega)
  refine jT_fB [1, 15, 16, 17, 18, 19, 20, 21, 22, 23, 24, 25, 26, 27, 28, 29] 41 (y := 283) (pcN := 2509) (dC := 2) (bc1 := 0) (bc2 := 0) (c1 := 0) (c2 := 0) (as := [(4, 1), (0, 3), (0, x2)]) (asC := [(4, 0), (0, 3), (0, x2)]) (LN := [(6, (0, 1)), (5, (0, 0)), (4, (4, 3)), (3, (4, 2)), (2, (4, 1)), (1, (4, 0)), (0, (6, 0))]) (stN := []) (hsC := jpA_1519) (hsD := jpA_1820) (v := (0, 0)) (st2 := [(0, 0)]) (hs2 := jpA_1934) (jA_283_1082 (d := 0) (by omega)) (by rfl) (by rfl) (by decide +kernel) (by rfl) (by rfl) (by omega) (by omega) (by omega) (by omega) rfl (by decide +kernel) ?_
  refine jT_xistore (v := (0, 0)) (LN := [(7, (0, 0)), (6, (0, 1)), (5, (0, 0)), (4, (4, 3)), (3, (4, 2)), (2, (4, 1)), (1, (4, 0)), (0, (6, 0))]) (pcN := 2511) jI_379_2509 rfl rfl rfl rfl ?_
  refine jT_xaload_n (v := (4, 1)) (pcN := 2512) jI_379_2511 rfl rfl rfl ?_
  refine jT_fR [1, 15, 16, 17, 18, 19, 20, 21, 22, 23, 24, 25, 26, 27, 28, 29] 41 (y := 186) (pcN := 2515) (dC := 0) (bc1 := 0) (bc2 := 0) (c1 := 0) (c2 := 0) (as := [(4, 1)]) (asC := [(4, 0)]) (LN := [(7, (0, 0)), (6, (0, 1)), (5, (0, 0)), (4, (4, 3)), (3, (4, 2)), (2, (4, 1)), (1, (4, 0)), (0, (6, 0))]) (stN := []) (hsC := jpA_20) (v := (0, 1)) (st2 := [(0, 1)]) (jA_186_8 (d := 0)) (by rfl) (by rfl) (by decide +kernel) (by rfl) (by rfl) (by omega) (by omega) (by omega) (by omega) rfl ?_
  refine jT_xiload (v := (0, 1)) (pcN := 2517) jI_379_2515 rfl rfl rfl ?_
  refine jT_xicT (pcN := 2522) jI_379_2517 rfl (by decide +kernel) rfl ?_
  refine jT_xiload (v := (0, 1)) (pcN := 2524) jI_379_2522 rfl rfl rfl ?_
  refine jT_xifT (pcN := 2539) jI_379_2524 rfl (by decide +kernel) rfl ?_
  refine jT_xgoto (pcN := 3740) jI_379_2539 rfl ?_
  refine jT_xiinc (x := 0) (z := 5) (LN := [(5, (0, 5)), (7, (0, 0)), (6, (0, 1)), (4, (4, 3)), (3, (4, 2)), (2, (4, 1)), (1, (4, 0)), (0, (6, 0))]) (pcN := 3743) jI_379_3740 rfl rfl (by decide) rfl rfl ?_
  refine jT_xgoto (pcN := 28) jI_379_3743 rfl ?_
  refine jT_xiload (v := (0, 5)) (pcN := 30) jI_379_28 rfl rfl rfl ?_
  refine jT_xaload_n (v := (6, 0)) (pcN := 31) jI_379_30 rfl rfl rfl ?_
  refine jT_adv 1 (pcN := 32) (LN := [(5, (0, 5)), (7, (0, 0)), (6, (0, 1)), (4, (4, 3)), (3, (4, 2)), (2, (4, 1)), (1, (4, 0)), (0, (6, 0))]) (stN := [(0, 5), (0, 5)]) (hsN := jpA_1934) (c1 := 0) (s1 := 0) (c2 := 0) (s2 := 0) (by exact rfl) ?_ (by omega) (by omega)
  refine jT_xiconst (k := 5) (pcN := 33) jI_379_32 rfl ?_
  refine jT_xisub (x := 5) (y := 5) (z := 0) (pcN := 34) jI_379_33 rfl (by decide) rfl ?_
  refine jT_xicT (pcN := 3746) jI_379_34 rfl (by decide +kernel) rfl ?_
  refine jT_xiconst (k := 1) (pcN := 3747) jI_379_3746 rfl ?_
  exact jT_ret rfl (by decide) (by show 41 ≤ 41; decide) (by omega) (by omega) ⟨rfl, rfl⟩
def jpA_3889 : List JC := [jzA_265, jzA_266, (101, [], [0]), jgh, (8, [(4, 30), (4, 31)], []), jgh, jgh, jgh, jgh, jgh, jgh, jgh, jgh, jgh, jzA_721, (100, [], jS0), jgh, jgh, jgh, jgh, jgh, (101, [], [0, 0, 0, 0, 0, 0]), (100, [], (List.replicate 1792 0)), jgh, jgh, jgh, jgh, jgh, jgh, jgh, jgh, (101, [], [0, 0, 0, 0, 0, 0]), jgh, (117, [], [37, 38, 39, 40]), jgh, jgh, jgh, jgh, jgh, jgh, (7, [(4, 41), (4, 45), (4, 50)], []), (114, [], [42]), (4, [(4, 43), (1, 1)], []), (101, [], [0, 0, 0, 0, 0, 0]), (114, [], [49]), (114, [], [49]), (101, [], [0, 0, 0, 0, 0, 0]), (4, [(4, 46), (1, 1)], []), (101, [], [1, 0, 0, 0, 0, 0]), (4, [(4, 48), (1, 1)], []), (100, [], [0])]
def jpA_3890 : List JC := [jzA_265, jzA_3804, (101, [], [0]), jgh, (8, [(4, 30), (4, 31)], []), jgh, jgh, jgh, jgh, jgh, jgh, jgh, jgh, jgh, jzA_721, (100, [], jS0), jgh, jgh, jgh, jgh, jgh, (101, [], [1, 0, 0, 0, 0, 0]), jzA_3760, jgh, jgh, jgh, jgh, jgh, jgh, jgh, jgh, (101, [], [0, 0, 0, 0, 0, 0]), jgh, (117, [], [37, 38, 39, 40]), jgh, jgh, jgh, jgh, jgh, jgh, (7, [(4, 41), (4, 45), (4, 50)], []), (114, [], [42]), (4, [(4, 43), (1, 1)], []), (101, [], [0, 0, 0, 0, 0, 0]), (114, [], [49]), (114, [], [49]), (101, [], [0, 0, 0, 0, 0, 0]), (4, [(4, 46), (1, 1)], []), (101, [], [1, 0, 0, 0, 0, 0]), (4, [(4, 48), (1, 1)], []), (100, [], [0])]
set_option maxRecDepth 100000 in
theorem jL_32_11 {d : Nat} {x0 x1 x2 x3 x4 : Int} (h_x0 : (-2147483648) ≤ x0 ∧ x0 ≤ 2147483647) (h_x1 : 3 ≤ x1 ∧ x1 ≤ 3) (h_x2 : 0 ≤ x2 ∧ x2 ≤ 0) (h_x3 : (-2147483648) ≤ x3 ∧ x3 ≤ 2147483647) (h_x4 : (-2147483648) ≤ x4 ∧ x4 ≤ 2147483647) : jT [x0, x1, x2, x3, x4] (d + 8) 379 44 2474 [(5, (0, 0)), (4, (4, 3)), (3, (4, 2)), (2, (4, 1)), (1, (4, 0)), (0, (6, 0))] [] jpA_3818 7 19 (fun k v hsN => k = 0 ∧ v = (0, 1)) := by
  refine jT_xaload_n (v := (4, 0)) (pcN := 2475) jI_379_2474 rfl rfl rfl ?_
  refine jT_xaload_n (v := (6, 0)) (pcN := 2476) jI_379_2475 rfl rfl rfl ?_
  refine jT_xiload (v := (0, 0)) (pcN := 2478) jI_379_2476 rfl rfl rfl ?_
  refine jT_xiconst (k := 1) (pcN := 2479) jI_379_2478 rfl ?_
  refine jT_xiadd (x := 0) (y := 1) (z := 1) (pcN := 2480) jI_379_2479 rfl (by decide) rfl ?_
  refine jT_adv 1 (pcN := 2481) (LN := [(5, (0, 0)), (4, (4, 3)), (3, (4, 2)), (2, (4, 1)), (1, (4, 0)), (0, (6, 0))]) (stN := [(0, x1), (4, 0)]) (hsN := jpA_3818) (c1 := 0) (s1 := 0) (c2 := 7) (s2 := 19) (by exact rfl) ?_ (by omega) (by omega)
  refine jT_eq (LN := [(5, (0, 0)), (4, (4, 3)), (3, (4, 2)), (2, (4, 1)), (1, (4, 0)), (0, (6, 0))]) (stN := [(0, 3), (4, 0)]) (hsN := [jzA_265, jzA_266, (101, [], [0]), jgh, (8, [(4, 30), (4, 31)], []), jgh, jgh, jgh, jgh, jgh, jgh, jgh, jgh, jgh, jzA_721, (100, [], jS0), jgh, jgh, jgh, jgh, jgh, (101, [], [0, 0, 0, 0, 0, 0]), (100, [], (List.replicate 1792 0)), jgh, jgh, jgh, jgh, jgh, jgh, jgh, jgh, (101, [], [0, 0, 0, 0, 0, 0]), jgh, (117, [], [37, 38, 39, 40]), jgh, jgh, jgh, jgh, jgh, jgh, (7, [(4, 41), (4, (-1)), (4, (-1))], []), (114, [], [42]), (4, [(4, 43), (1, 1)], []), (101, [], [0, 0, 0, 0, 0, 0])]) (rfl) (by simp only [List.cons.injEq, Prod.mk.injEq, and_true, true_and] <;> ((try unfold jw); (try unfold jwl); omega)) (rfl) ?_
  refine jT_xaload_n (v := (6, 0)) (pcN := 2482) jI_379_2481 rfl rfl rfl ?_
  refine jT_xiload (v := (0, 0)) (pcN := 2484) jI_379_2482 rfl rfl rfl ?_
  refine jT_xiconst (k := 2) (pcN := 2485) jI_379_2484 rfl ?_
  refine jT_xiadd (x := 0) (y := 2) (z := 2) (pcN := 2486) jI_379_2485 rfl (by decide) rfl ?_
  refine jT_adv 1 (pcN := 2487) (LN := [(5, (0, 0)), (4, (4, 3)), (3, (4, 2)), (2, (4, 1)), (1, (4, 0)), (0, (6, 0))]) (stN := [(0, x2), (0, 3), (4, 0)]) (hsN := jpA_3818) (c1 := 0) (s1 := 0) (c2 := 7) (s2 := 19) (by exact rfl) ?_ (by omega) (by omega)
  refine jT_eq (LN := [(5, (0, 0)), (4, (4, 3)), (3, (4, 2)), (2, (4, 1)), (1, (4, 0)), (0, (6, 0))]) (stN := [(0, 0), (0, 3), (4, 0)]) (hsN := [jzA_265, jzA_266, (101, [], [0]), jgh, (8, [(4, 30), (4, 31)], []), jgh, jgh, jgh, jgh, jgh, jgh, jgh, jgh, jgh, jzA_721, (100, [], jS0), jgh, jgh, jgh, jgh, jgh, (101, [], [0, 0, 0, 0, 0, 0]), (100, [], (List.replicate 1792 0)), jgh, jgh, jgh, jgh, jgh, jgh, jgh, jgh, (101, [], [0, 0, 0, 0, 0, 0]), jgh, (117, [], [37, 38, 39, 40]), jgh, jgh, jgh, jgh, jgh, jgh, (7, [(4, 41), (4, (-1)), (4, (-1))], []), (114, [], [42]), (4, [(4, 43), (1, 1)], []), (101, [], [0, 0, 0, 0, 0, 0])]) (rfl) (by simp only [List.cons.injEq, Prod.mk.injEq, and_true, true_and] <;> ((try unfold jw); (try unfold jwl); omega)) (rfl) ?_
  refine jT_xaload_n (v := (4, 2)) (pcN := 2488) jI_379_2487 rfl rfl rfl ?_
  refine jT_fB [0, 2, 4, 5, 6, 7, 8, 9, 10, 11, 12, 13, 14, 30, 31, 32, 33, 34, 35, 36, 37, 38, 39, 40, 41, 42, 43] 44 (y := 356) (pcN := 2491) (dC := 7) (bc1 := 7) (bc2 := 19) (c1 := 0) (c2 := 0) (as := [(4, 0), (0, 3), (0, 0), (4, 2)]) (asC := [(4, 0), (0, 3), (0, 0), (4, 1)]) (LN := [(5, (0, 0)), (4, (4, 3)), (3, (4, 2)), (2, (4, 1)), (1, (4, 0)), (0, (6, 0))]) (stN := []) (hsC := jpA_3780) (hsD := jpA_3781) (v := (0, 0)) (st2 := [(0, 0)]) (hs2 := jpA_3889) (jA_356_1084 (d := 0)) (by rfl) (by rfl) (by decide +kernel) (by rfl) (by rfl) (by omega) (by omega) (by omega) (by omega) rfl (by decide +kernel) ?_
  refine jT_xistore (v := (0, 0)) (LN := [(6, (0, 0)), (5, (0, 0)), (4, (4, 3)), (3, (4, 2)), (2, (4, 1)), (1, (4, 0)), (0, (6, 0))]) (pcN := 2493) jI_379_2491 rfl rfl rfl rfl ?_
  refine jT_xaload_n (v := (4, 1)) (pcN := 2494) jI_379_2493 rfl rfl rfl ?_
  refine jT_xaload_n (v := (6, 0)) (pcN := 2495) jI_379_2494 rfl rfl rfl ?_
  refine jT_xiload (v := (0, 0)) (pcN := 2497) jI_379_2495 rfl rfl rfl ?_
  refine jT_xiconst (k := 1) (pcN := 2498) jI_379_2497 rfl ?_
  refine jT_xiadd (x := 0) (y := 1) (z := 1) (pcN := 2499) jI_379_2498 rfl (by decide) rfl ?_
  refine jT_adv 1 (pcN := 2500) (LN := [(6, (0, 0)), (5, (0, 0)), (4, (4, 3)), (3, (4, 2)), (2, (4, 1)), (1, (4, 0)), (0, (6, 0))]) (stN := [(0, x1), (4, 1)]) (hsN := jpA_3889) (c1 := 0) (s1 := 0) (c2 := 0) (s2 := 0) (by exact rfl) ?_ (by omega) (by omega)
  refine jT_eq (LN := [(6, (0, 0)), (5, (0, 0)), (4, (4, 3)), (3, (4, 2)), (2, (4, 1)), (1, (4, 0)), (0, (6, 0))]) (stN := [(0, 3), (4, 1)]) (hsN := [jzA_265, jzA_266, (101, [], [0]), jgh, (8, [(4, 30), (4, 31)], []), jgh, jgh, jgh, jgh, jgh, jgh, jgh, jgh, jgh, jzA_721, (100, [], jS0), jgh, jgh, jgh, jgh, jgh, (101, [], [0, 0, 0, 0, 0, 0]), (100, [], (List.replicate 1792 0)), jgh, jgh, jgh, jgh, jgh, jgh, jgh, jgh, (101, [], [0, 0, 0, 0, 0, 0]), jgh, (117, [], [37, 38, 39, 40]), jgh, jgh, jgh, jgh, jgh, jgh, (7, [(4, 41), (4, 45), (4, 50)], []), (114, [], [42]), (4, [(4, 43), (1, 1)], []), (101, [], [0, 0, 0, 0, 0, 0]), (114, [], [49]), (114, [], [49]), (101, [], [0, 0, 0, 0, 0, 0]), (4, [(4, 46), (1, 1)], []), (101, [], [1, 0, 0, 0, 0, 0]), (4, [(4, 48), (1, 1)], []), (100, [], [0])]) (rfl) (by simp only [List.cons.injEq, Prod.mk.injEq, and_true, true_and] <;> ((try unfold jw); (try unfold jwl); omega)) (rfl) ?_
  refine jT_xaload_n (v := (6, 0)) (pcN := 2501) jI_379_2500 rfl rfl rfl ?_
  refine jT_xiload (v := (0, 0)) (pcN := 2503) jI_379_2501 rfl rfl rfl ?_
  refine jT_xiconst (k := 2) (pcN := 2504) jI_379_2503 rfl ?_
  refine jT_xiadd (x := 0) (y := 2) (z := 2) (pcN := 2505) jI_379_2504 rfl (by decide) rfl ?_
  refine jT_adv 1 (pcN := 2506) (LN := [(6, (0, 0)), (5, (0, 0)), (4, (4, 3)), (3, (4, 2)), (2, (4, 1)), (1, (4, 0)), (0, (6, 0))]) (stN := [(0, x2), (0, 3), (4, 1)]) (hsN := jpA_3889) (c1 := 0) (s1 := 0) (c2 := 0) (s2 := 0) (by exact rfl) ?_ (by omega) (by omega)
  refine jT_eq (LN := [(6, (0, 0)), (5, (0, 0)), (4, (4, 3)), (3, (4, 2)), (2, (4, 1)), (1, (4, 0)), (0, (6, 0))]) (stN := [(0, 0), (0, 3), (4, 1)]) (hsN := [jzA_265, jzA_266, (101, [], [0]), jgh, (8, [(4, 30), (4, 31)], []), jgh, jgh, jgh, jgh, jgh, jgh, jgh, jgh, jgh, jzA_721, (100, [], jS0), jgh, jgh, jgh, jgh, jgh, (101, [], [0, 0, 0, 0, 0, 0]), (100, [], (List.replicate 1792 0)), jgh, jgh, jgh, jgh, jgh, jgh, jgh, jgh, (101, [], [0, 0, 0, 0, 0, 0]), jgh, (117, [], [37, 38, 39, 40]), jgh, jgh, jgh, jgh, jgh, jgh, (7, [(4, 41), (4, 45), (4, 50)], []), (114, [], [42]), (4, [(4, 43), (1, 1)], []), (101, [], [0, 0, 0, 0, 0, 0]), (114, [], [49]), (114, [], [49]), (101, [], [0, 0, 0, 0, 0, 0]), (4, [(4, 46), (1, 1)], []), (101, [], [1, 0, 0, 0, 0, 0]), (4, [(4, 48), (1, 1)], []), (100, [], [0])]) (rfl) (by simp only [List.cons.injEq, Prod.mk.injEq, and_true, true_and] <;> ((try unfold jw); (try unfold jwl); omega)) (rfl) ?_
  refine jT_fB [1, 15, 16, 17, 18, 19, 20, 21, 22, 23, 24, 25, 26, 27, 28, 29] 51 (y := 283) (pcN := 2509) (dC := 6) (bc1 := 0) (bc2 := 0) (c1 := 0) (c2 := 0) (as := [(4, 1), (0, 3), (0, 0)]) (asC := [(4, 0), (0, 3), (0, 0)]) (LN := [(6, (0, 0)), (5, (0, 0)), (4, (4, 3)), (3, (4, 2)), (2, (4, 1)), (1, (4, 0)), (0, (6, 0))]) (stN := []) (hsC := jpA_1840) (hsD := jpA_3766) (v := (0, 0)) (st2 := [(0, 0)]) (hs2 := jpA_3890) (jA_283_1089 (d := 0)) (by rfl) (by rfl) (by decide +kernel) (by rfl) (by rfl) (by omega) (by omega) (by omega) (by omega) rfl (by decide +kernel) ?_
  refine jT_xistore (v := (0, 0)) (LN := [(7, (0, 0)), (6, (0, 0)), (5, (0, 0)), (4, (4, 3)), (3, (4, 2)), (2, (4, 1)), (1, (4, 0)), (0, (6, 0))]) (pcN := 2511) jI_379_2509 rfl rfl rfl rfl ?_
  refine jT_xaload_n (v := (4, 1)) (pcN := 2512) jI_379_2511 rfl rfl rfl ?_
  refine jT_fR [1, 15, 16, 17, 18, 19, 20, 21, 22, 23, 24, 25, 26, 27, 28, 29] 51 (y := 186) (pcN := 2515) (dC := 0) (bc1 := 0) (bc2 := 0) (c1 := 0) (c2 := 0) (as := [(4, 1)]) (asC := [(4, 0)]) (LN := [(7, (0, 0)), (6, (0, 0)), (5, (0, 0)), (4, (4, 3)), (3, (4, 2)), (2, (4, 1)), (1, (4, 0)), (0, (6, 0))]) (stN := []) (hsC := jpA_3767) (v := (0, 0)) (st2 := [(0, 0)]) (jA_186_1020 (d := 0)) (by rfl) (by rfl) (by decide +kernel) (by rfl) (by rfl) (by omega) (by omega) (by omega) (by omega) rfl ?_
  refine jT_xiload (v := (0, 0)) (pcN := 2517) jI_379_2515 rfl rfl rfl ?_
  refine jT_xicT (pcN := 2522) jI_379_2517 rfl (by decide +kernel) rfl ?_
  refine jT_xiload (v := (0, 0)) (pcN := 2524) jI_379_2522 rfl rfl rfl ?_
  refine jT_xifF (t := 2539) (pcN := 2527) jI_379_2524 rfl (by decide +kernel) rfl rfl ?_
  refine jT_xaload_n (v := (4, 2)) (pcN := 2528) jI_379_2527 rfl rfl rfl ?_
  refine jT_xiconst (k := 0) (pcN := 2529) jI_379_2528 rfl ?_
  refine jT_lald (x := 0) (a := 2) (j := 0) (fs := []) (X := [0]) jI_379_2529 rfl rfl rfl rfl ?_
  refine jT_eq (LN := [(7, (0, 0)), (6, (0, 0)), (5, (0, 0)), (4, (4, 3)), (3, (4, 2)), (2, (4, 1)), (1, (4, 0)), (0, (6, 0))]) (stN := [(1, 0)]) (hsN := jpA_3890) rfl rfl rfl ?_
  refine jT_xiload (v := (0, 0)) (pcN := 2532) jI_379_2530 rfl rfl rfl ?_
  refine jT_xi2l (x := 0) (z := 0) (pcN := 2533) jI_379_2532 rfl (by decide +kernel) rfl ?_
  refine jT_lcmp (a := 0) (b := 0) (z := 0) (by rfl) (by rfl) (by decide +kernel) (by decide +kernel) (by decide) ?_
  refine jT_xifT (pcN := 2539) jI_379_2534 rfl (by decide +kernel) rfl ?_
  refine jT_xgoto (pcN := 3740) jI_379_2539 rfl ?_
  refine jT_xiinc (x := 0) (z := 5) (LN := [(5, (0, 5)), (7, (0, 0)), (6, (0, 0)), (4, (4, 3)), (3, (4, 2)), (2, (4, 1)), (1, (4, 0)), (0, (6, 0))]) (pcN := 3743) jI_379_3740 rfl rfl (by decide) rfl rfl ?_
  refine jT_xgoto (pcN := 28) jI_379_3743 rfl ?_
  refine jT_xiload (v := (0, 5)) (pcN := 30) jI_379_28 rfl rfl rfl ?_
  refine jT_xaload_n (v := (6, 0)) (pcN := 31) jI_379_30 rfl rfl rfl ?_
  refine jT_adv 1 (pcN := 32) (LN := [(5, (0, 5)), (7, (0, 0)), (6, (0, 0)), (4, (4, 3)), (3, (4, 2)), (2, (4, 1)), (1, (4, 0)), (0, (6, 0))]) (stN := [(0, 5), (0, 5)]) (hsN := jpA_3890) (c1 := 0) (s1 := 0) (c2 := 0) (s2 := 0) (by exact rfl) ?_ (by omega) (by omega)
  refine jT_xiconst (k := 5) (pcN := 33) jI_379_32 rfl ?_
  refine jT_xisub (x := 5) (y := 5) (z := 0) (pcN := 34) jI_379_33 rfl (by decide) rfl ?_
  refine jT_xicT (pcN := 3746) jI_379_34 rfl (by decide +kernel) rfl ?_
  refine jT_xiconst (k := 1) (pcN := 3747) jI_379_3746 rfl ?_
  exact jT_ret rfl (by decide) (by show 44 ≤ 51; decide) (by omega) (by omega) ⟨rfl, rfl⟩
set_option maxRecDepth 100000 in
theorem jL_32_12 {d : Nat} {x0 x1 x2 x3 x4 : Int} (h_x0 : (-2147483648) ≤ x0 ∧ x0 ≤ 2147483647) (h_x1 : 3 ≤ x1 ∧ x1 ≤ 3) (h_x2 : 1 ≤ x2 ∧ x2 ≤ 2147483647) (h_x3 : (-2147483648) ≤ x3 ∧ x3 ≤ 2147483647) (h_x4 : (-2147483648) ≤ x4 ∧ x4 ≤ 2147483647) : jT [x0, x1, x2, x3, x4] (d + 3) 379 41 2474 [(5, (0, 0)), (4, (4, 3)), (3, (4, 2)), (2, (4, 1)), (1, (4, 0)), (0, (6, 0))] [] jpA_1933 1 6 (fun k v hsN => k = 0 ∧ v = (0, 1)) := by
  refine jT_xaload_n (v := (4, 0)) (pcN := 2475) jI_379_2474 rfl rfl rfl ?_
  refine jT_xaload_n (v := (6, 0)) (pcN := 2476) jI_379_2475 rfl rfl rfl ?_
  refine jT_xiload (v := (0, 0)) (pcN := 2478) jI_379_2476 rfl rfl rfl ?_
  refine jT_xiconst (k := 1) (pcN := 2479) jI_379_2478 rfl ?_
  refine jT_xiadd (x := 0) (y := 1) (z := 1) (pcN := 2480) jI_379_2479 rfl (by decide) rfl ?_
  refine jT_adv 1 (pcN := 2481) (LN := [(5, (0, 0)), (4, (4, 3)), (3, (4, 2)), (2, (4, 1)), (1, (4, 0)), (0, (6, 0))]) (stN := [(0, x1), (4, 0)]) (hsN := jpA_1933) (c1 := 0) (s1 := 0) (c2 := 1) (s2 := 6) (by exact rfl) ?_ (by omega) (by omega)
  refine jT_eq (LN := [(5, (0, 0)), (4, (4, 3)), (3, (4, 2)), (2, (4, 1)), (1, (4, 0)), (0, (6, 0))]) (stN := [(0, 3), (4, 0)]) (hsN := [jzA_265, jzA_266, jgh, jgh, jgh, jgh, jgh, jgh, jgh, jgh, jgh, jgh, jgh, jgh, jzA_322, (100, [], jS0), jgh, jgh, jgh, jgh, jgh, jgh, jgh, jgh, jgh, jgh, jgh, jgh, jgh, jgh, jgh, (117, [], [35, 36, 37, 38]), jgh, jgh, jgh, jgh, jgh, jgh, (7, [(4, 39), (4, (-1)), (4, (-1))], []), (114, [], [40]), jgh]) (rfl) (by simp only [List.cons.injEq, Prod.mk.injEq, and_true, true_and] <;> ((try unfold jw); (try unfold jwl); omega)) (rfl) ?_
  refine jT_xaload_n (v := (6, 0)) (pcN := 2482) jI_379_2481 rfl rfl rfl ?_
  refine jT_xiload (v := (0, 0)) (pcN := 2484) jI_379_2482 rfl rfl rfl ?_
  refine jT_xiconst (k := 2) (pcN := 2485) jI_379_2484 rfl ?_
  refine jT_xiadd (x := 0) (y := 2) (z := 2) (pcN := 2486) jI_379_2485 rfl (by decide) rfl ?_
  refine jT_adv 1 (pcN := 2487) (LN := [(5, (0, 0)), (4, (4, 3)), (3, (4, 2)), (2, (4, 1)), (1, (4, 0)), (0, (6, 0))]) (stN := [(0, x2), (0, 3), (4, 0)]) (hsN := jpA_1933) (c1 := 0) (s1 := 0) (c2 := 1) (s2 := 6) (by exact rfl) ?_ (by omega) (by omega)
  refine jT_xaload_n (v := (4, 2)) (pcN := 2488) jI_379_2487 rfl rfl rfl ?_
  refine jT_fR [0, 2, 4, 5, 6, 7, 8, 9, 10, 11, 12, 13, 14, 30, 31, 32, 33, 34, 35, 36, 37, 38, 39, 40] 41 (y := 356) (pcN := 2491) (dC := 2) (bc1 := 1) (bc2 := 6) (c1 := 0) (c2 := 0) (as := [(4, 0), (0, 3), (0, x2), (4, 2)]) (asC := [(4, 0), (0, 3), (0, x2), (4, 1)]) (LN := [(5, (0, 0)), (4, (4, 3)), (3, (4, 2)), (2, (4, 1)), (1, (4, 0)), (0, (6, 0))]) (stN := []) (hsC := jpA_1872) (v := (0, 1)) (st2 := [(0, 1)]) (jA_356_1091 (d := 0) (by omega)) (by rfl) (by rfl) (by decide +kernel) (by rfl) (by rfl) (by omega) (by omega) (by omega) (by omega) rfl ?_
  refine jT_xistore (v := (0, 1)) (LN := [(6, (0, 1)), (5, (0, 0)), (4, (4, 3)), (3, (4, 2)), (2, (4, 1)), (1, (4, 0)), (0, (6, 0))]) (pcN := 2493) jI_379_2491 rfl rfl rfl rfl ?_
  refine jT_xaload_n (v := (4, 1)) (pcN := 2494) jI_379_2493 rfl rfl rfl ?_
  refine jT_xaload_n (v := (6, 0)) (pcN := 2495) jI_379_2494 rfl rfl rfl ?_
  refine jT_xiload (v := (0, 0)) (pcN := 2497) jI_379_2495 rfl rfl rfl ?_
  refine jT_xiconst (k := 1) (pcN := 2498) jI_379_2497 rfl ?_
  refine jT_xiadd (x := 0) (y := 1) (z := 1) (pcN := 2499) jI_379_2498 rfl (by decide) rfl ?_
  refine jT_adv 1 (pcN := 2500) (LN := [(6, (0, 1)), (5, (0, 0)), (4, (4, 3)), (3, (4, 2)), (2, (4, 1)), (1, (4, 0)), (0, (6, 0))]) (stN := [(0, x1), (4, 1)]) (hsN := jpA_1933) (c1 := 0) (s1 := 0) (c2 := 0) (s2 := 0) (by exact rfl) ?_ (by omega) (by omega)
  refine jT_eq (LN := [(6, (0, 1)), (5, (0, 0)), (4, (4, 3)), (3, (4, 2)), (2, (4, 1)), (1, (4, 0)), (0, (6, 0))]) (stN := [(0, 3), (4, 1)]) (hsN := [jzA_265, jzA_266, jgh, jgh, jgh, jgh, jgh, jgh, jgh, jgh, jgh, jgh, jgh, jgh, jzA_322, (100, [], jS0), jgh, jgh, jgh, jgh, jgh, jgh, jgh, jgh, jgh, jgh, jgh, jgh, jgh, jgh, jgh, (117, [], [35, 36, 37, 38]), jgh, jgh, jgh, jgh, jgh, jgh, (7, [(4, 39), (4, (-1)), (4, (-1))], []), (114, [], [40]), jgh]) (rfl) (by simp only [List.cons.injEq, Prod.mk.injEq, and_true, true_and] <;> ((try unfold jw); (try unfold jwl); omega)) (rfl) ?_
  refine jT_xaload_n (v := (6, 0)) (pcN := 2501) jI_379_2500 rfl rfl rfl ?_
  refine jT_xiload (v := (0, 0)) (pcN := 2503) jI_379_2501 rfl rfl rfl ?_
  refine jT_xiconst (k := 2) (pcN := 2504) jI_379_2503 rfl ?_
  refine jT_xiadd (x := 0) (y := 2) (z := 2) (pcN := 2505) jI_379_2504 rfl (by decide) rfl ?_
  refine jT_adv 1 (pcN := 2506) (LN := [(6, (0, 1)), (5, (0, 0)), (4, (4, 3)), (3, (4, 2)), (2, (4, 1)), (1, (4, 0)), (0, (6, 0))]) (stN := [(0, x2), (0, 3), (4, 1)]) (hsN := jpA_1933) (c1 := 0) (s1 := 0) (c2 := 0) (s2 := 0) (by exact rfl) ?_ (by omega) (by omega)
  refine jT_fB [1, 15, 16, 17, 18, 19, 20, 21, 22, 23, 24, 25, 26, 27, 28, 29] 41 (y := 283) (pcN := 2509) (dC := 2) (bc1 := 0) (bc2 := 0) (c1 := 0) (c2 := 0) (as := [(4, 1), (0, 3), (0, x2)]) (asC := [(4, 0), (0, 3), (0, x2)]) (LN := [(6, (0, 1)), (5, (0, 0)), (4, (4, 3)), (3, (4, 2)), (2, (4, 1)), (1, (4, 0)), (0, (6, 0))]) (stN := []) (hsC := jpA_1519) (hsD := jpA_1820) (v := (0, 0)) (st2 := [(0, 0)]) (hs2 := jpA_1934) (jA_283_1092 (d := 0) (by omega)) (by rfl) (by rfl) (by decide +kernel) (by rfl) (by rfl) (by omega) (by omega) (by omega) (by omega) rfl (by decide +kernel) ?_
  refine jT_xistore (v := (0, 0)) (LN := [(7, (0, 0)), (6, (0, 1)), (5, (0, 0)), (4, (4, 3)), (3, (4, 2)), (2, (4, 1)), (1, (4, 0)), (0, (6, 0))]) (pcN := 2511) jI_379_2509 rfl rfl rfl rfl ?_
  refine jT_xaload_n (v := (4, 1)) (pcN := 2512) jI_379_2511 rfl rfl rfl ?_
  refine jT_fR [1, 15, 16, 17, 18, 19, 20, 21, 22, 23, 24, 25, 26, 27, 28, 29] 41 (y := 186) (pcN := 2515) (dC := 0) (bc1 := 0) (bc2 := 0) (c1 := 0) (c2 := 0) (as := [(4, 1)]) (asC := [(4, 0)]) (LN := [(7, (0, 0)), (6, (0, 1)), (5, (0, 0)), (4, (4, 3)), (3, (4, 2)), (2, (4, 1)), (1, (4, 0)), (0, (6, 0))]) (stN := []) (hsC := jpA_20) (v := (0, 1)) (st2 := [(0, 1)]) (jA_186_8 (d := 0)) (by rfl) (by rfl) (by decide +kernel) (by rfl) (by rfl) (by omega) (by omega) (by omega) (by omega) rfl ?_
  refine jT_xiload (v := (0, 1)) (pcN := 2517) jI_379_2515 rfl rfl rfl ?_
  refine jT_xicT (pcN := 2522) jI_379_2517 rfl (by decide +kernel) rfl ?_
  refine jT_xiload (v := (0, 1)) (pcN := 2524) jI_379_2522 rfl rfl rfl ?_
  refine jT_xifT (pcN := 2539) jI_379_2524 rfl (by decide +kernel) rfl ?_
  refine jT_xgoto (pcN := 3740) jI_379_2539 rfl ?_
  refine jT_xiinc (x := 0) (z := 5) (LN := [(5, (0, 5)), (7, (0, 0)), (6, (0, 1)), (4, (4, 3)), (3, (4, 2)), (2, (4, 1)), (1, (4, 0)), (0, (6, 0))]) (pcN := 3743) jI_379_3740 rfl rfl (by decide) rfl rfl ?_
  refine jT_xgoto (pcN := 28) jI_379_3743 rfl ?_
  refine jT_xiload (v := (0, 5)) (pcN := 30) jI_379_28 rfl rfl rfl ?_
  refine jT_xaload_n (v := (6, 0)) (pcN := 31) jI_379_30 rfl rfl rfl ?_
  refine jT_adv 1 (pcN := 32) (LN := [(5, (0, 5)), (7, (0, 0)), (6, (0, 1)), (4, (4, 3)), (3, (4, 2)), (2, (4, 1)), (1, (4, 0)), (0, (6, 0))]) (stN := [(0, 5), (0, 5)]) (hsN := jpA_1934) (c1 := 0) (s1 := 0) (c2 := 0) (s2 := 0) (by exact rfl) ?_ (by omega) (by omega)
  refine jT_xiconst (k := 5) (pcN := 33) jI_379_32 rfl ?_
  refine jT_xisub (x := 5) (y := 5) (z := 0) (pcN := 34) jI_379_33 rfl (by decide) rfl ?_
  refine jT_xicT (pcN := 3746) jI_379_34 rfl (by decide +kernel) rfl ?_
  refine jT_xiconst (k := 1) (pcN := 3747) jI_379_3746 rfl ?_
  exact jT_ret rfl (by decide) (by show 41 ≤ 41; decide) (by omega) (by omega) ⟨rfl, rfl⟩
set_option maxRecDepth 100000 in
theorem jL_32_13 {d : Nat} {x0 x1 x2 x3 x4 : Int} (h_x0 : (-2147483648) ≤ x0 ∧ x0 ≤ 2147483647) (h_x1 : 4 ≤ x1 ∧ x1 ≤ 2147483647) (h_x2 : (-2147483648) ≤ x2 ∧ x2 ≤ 2147483647) (h_x3 : (-2147483648) ≤ x3 ∧ x3 ≤ 2147483647) (h_x4 : (-2147483648) ≤ x4 ∧ x4 ≤ 2147483647) : jT [x0, x1, x2, x3, x4] (d + 3) 379 30 2474 [(5, (0, 0)), (4, (4, 3)), (3, (4, 2)), (2, (4, 1)), (1, (4, 0)), (0, (6, 0))] [] jpA_267 1 6 (fun k v hsN => k = 0 ∧ v = (0, 1)) := by
  refine jT_xaload_n (v := (4, 0)) (pcN := 2475) jI_379_2474 rfl rfl rfl ?_
  refine jT_xaload_n (v := (6, 0)) (pcN := 2476) jI_379_2475 rfl rfl rfl ?_
  refine jT_xiload (v := (0, 0)) (pcN := 2478) jI_379_2476 rfl rfl rfl ?_
  refine jT_xiconst (k := 1) (pcN := 2479) jI_379_2478 rfl ?_
  refine jT_xiadd (x := 0) (y := 1) (z := 1) (pcN := 2480) jI_379_2479 rfl (by decide) rfl ?_
  refine jT_adv 1 (pcN := 2481) (LN := [(5, (0, 0)), (4, (4, 3)), (3, (4, 2)), (2, (4, 1)), (1, (4, 0)), (0, (6, 0))]) (stN := [(0, x1), (4, 0)]) (hsN := jpA_267) (c1 := 0) (s1 := 0) (c2 := 1) (s2 := 6) (by exact rfl) ?_ (by omega) (by omega)
  refine jT_xaload_n (v := (6, 0)) (pcN := 2482) jI_379_2481 rfl rfl rfl ?_
  refine jT_xiload (v := (0, 0)) (pcN := 2484) jI_379_2482 rfl rfl rfl ?_
  refine jT_xiconst (k := 2) (pcN := 2485) jI_379_2484 rfl ?_
  refine jT_xiadd (x := 0) (y := 2) (z := 2) (pcN := 2486) jI_379_2485 rfl (by decide) rfl ?_
  refine jT_adv 1 (pcN := 2487) (LN := [(5, (0, 0)), (4, (4, 3)), (3, (4, 2)), (2, (4, 1)), (1, (4, 0)), (0, (6, 0))]) (stN := [(0, x2), (0, x1), (4, 0)]) (hsN := jpA_267) (c1 := 0) (s1 := 0) (c2 := 1) (s2 := 6) (by exact rfl) ?_ (by omega) (by omega)
  refine jT_xaload_n (v := (4, 2)) (pcN := 2488) jI_379_2487 rfl rfl rfl ?_
  refine jT_fR [0, 2, 4, 5, 6, 7, 8, 9, 10, 11, 12, 13, 14] 30 (y := 356) (pcN := 2491) (dC := 2) (bc1 := 1) (bc2 := 6) (c1 := 0) (c2 := 0) (as := [(4, 0), (0, x1), (0, x2), (4, 2)]) (asC := [(4, 0), (0, x1), (0, x2), (4, 1)]) (LN := [(5, (0, 0)), (4, (4, 3)), (3, (4, 2)), (2, (4, 1)), (1, (4, 0)), (0, (6, 0))]) (stN := []) (hsC := jpA_15) (v := (0, 1)) (st2 := [(0, 1)]) (jA_356_1094 (d := 0) (by omega) (by omega)) (by rfl) (by rfl) (by decide +kernel) (by rfl) (by rfl) (by omega) (by omega) (by omega) (by omega) rfl ?_
  refine jT_xistore (v := (0, 1)) (LN := [(6, (0, 1)), (5, (0, 0)), (4, (4, 3)), (3, (4, 2)), (2, (4, 1)), (1, (4, 0)), (0, (6, 0))]) (pcN := 2493) jI_379_2491 rfl rfl rfl rfl ?_
  refine jT_xaload_n (v := (4, 1)) (pcN := 2494) jI_379_2493 rfl rfl rfl ?_
  refine jT_xaload_n (v := (6, 0)) (pcN := 2495) jI_379_2494 rfl rfl rfl ?_
  refine jT_xiload (v := (0, 0)) (pcN := 2497) jI_379_2495 rfl rfl rfl ?_
  refine jT_xiconst (k := 1) (pcN := 2498) jI_379_2497 rfl ?_
  refine jT_xiadd (x := 0) (y := 1) (z := 1) (pcN := 2499) jI_379_2498 rfl (by decide) rfl ?_
  refine jT_adv 1 (pcN := 2500) (LN := [(6, (0, 1)), (5, (0, 0)), (4, (4, 3)), (3, (4, 2)), (2, (4, 1)), (1, (4, 0)), (0, (6, 0))]) (stN := [(0, x1), (4, 1)]) (hsN := jpA_267) (c1 := 0) (s1 := 0) (c2 := 0) (s2 := 0) (by exact rfl) ?_ (by omega) (by omega)
  refine jT_xaload_n (v := (6, 0)) (pcN := 2501) jI_379_2500 rfl rfl rfl ?_
  refine jT_xiload (v := (0, 0)) (pcN := 2503) jI_379_2501 rfl rfl rfl ?_
  refine jT_xiconst (k := 2) (pcN := 2504) jI_379_2503 rfl ?_
  refine jT_xiadd (x := 0) (y := 2) (z := 2) (pcN := 2505) jI_379_2504 rfl (by decide) rfl ?_
  refine jT_adv 1 (pcN := 2506) (LN := [(6, (0, 1)), (5, (0, 0)), (4, (4, 3)), (3, (4, 2)), (2, (4, 1)), (1, (4, 0)), (0, (6, 0))]) (stN := [(0, x2), (0, x1), (4, 1)]) (hsN := jpA_267) (c1 := 0) (s1 := 0) (c2 := 0) (s2 := 0) (by exact rfl) ?_ (by omega) (by omega)
  refine jT_fB [1, 15, 16, 17, 18, 19, 20, 21, 22, 23, 24, 25, 26, 27, 28, 29] 30 (y := 283) (pcN := 2509) (dC := 2) (bc1 := 0) (bc2 := 0) (c1 := 0) (c2 := 0) (as := [(4, 1), (0, x1), (0, x2)]) (asC := [(4, 0), (0, x1), (0, x2)]) (LN := [(6, (0, 1)), (5, (0, 0)), (4, (4, 3)), (3, (4, 2)), (2, (4, 1)), (1, (4, 0)), (0, (6, 0))]) (stN := []) (hsC := jpA_22) (hsD := jpA_20) (v := (0, 0)) (st2 := [(0, 0)]) (hs2 := jpA_306) (jA_283_1095 (d := 0) (by omega) (by omega)) (by rfl) (by rfl) (by decide +kernel) (by rfl) (by rfl) (by omega) (by omega) (by omega) (by omega) rfl (by decide +kernel) ?_
  refine jT_xistore (v := (0, 0)) (LN := [(7, (0, 0)), (6, (0, 1)), (5, (0, 0)), (4, (4, 3)), (3, (4, 2)), (2, (4, 1)), (1, (4, 0)), (0, (6, 0))]) (pcN := 2511) jI_379_2509 rfl rfl rfl rfl ?_
  refine jT_xaload_n (v := (4, 1)) (pcN := 2512) jI_379_2511 rfl rfl rfl ?_
  refine jT_fR [1, 15, 16, 17, 18, 19, 20, 21, 22, 23, 24, 25, 26, 27, 28, 29] 30 (y := 186) (pcN := 2515) (dC := 0) (bc1 := 0) (bc2 := 0) (c1 := 0) (c2 := 0) (as := [(4, 1)]) (asC := [(4, 0)]) (LN := [(7, (0, 0)), (6, (0, 1)), (5, (0, 0)), (4, (4, 3)), (3, (4, 2)), (2, (4, 1)), (1, (4, 0)), (0, (6, 0))]) (stN := []) (hsC := jpA_20) (v := (0, 1)) (st2 := [(0, 1)]) (jA_186_8 (d := 0)) (by rfl) (by rfl) (by decide +kernel) (by rfl) (by rfl) (by omega) (by omega) (by omega) (by omega) rfl ?_
  refine jT_xiload (v := (0, 1)) (pcN := 2517) jI_379_2515 rfl rfl rfl ?_
  refine jT_xicT (pcN := 2522) jI_379_2517 rfl (by decide +kernel) rfl ?_
  refine jT_xiload (v := (0, 1)) (pcN := 2524) jI_379_2522 rfl rfl rfl ?_
  refine jT_xifT (pcN := 2539) jI_379_2524 rfl (by decide +kernel) rfl ?_
  refine jT_xgoto (pcN := 3740) jI_379_2539 rfl ?_
  refine jT_xiinc (x := 0) (z := 5) (LN := [(5, (0, 5)), (7, (0, 0)), (6, (0, 1)), (4, (4, 3)), (3, (4, 2)), (2, (4, 1)), (1, (4, 0)), (0, (6, 0))]) (pcN := 3743) jI_379_3740 rfl rfl (by decide) rfl rfl ?_
  refine jT_xgoto (pcN := 28) jI_379_3743 rfl ?_
  refine jT_xiload (v := (0, 5)) (pcN := 30) jI_379_28 rfl rfl rfl ?_
  refine jT_xaload_n (v := (6, 0)) (pcN := 31) jI_379_30 rfl rfl rfl ?_
  refine jT_adv 1 (pcN := 32) (LN := [(5, (0, 5)), (7, (0, 0)), (6, (0, 1)), (4, (4, 3)), (3, (4, 2)), (2, (4, 1)), (1, (4, 0)), (0, (6, 0))]) (stN := [(0, 5), (0, 5)]) (hsN := jpA_306) (c1 := 0) (s1 := 0) (c2 := 0) (s2 := 0) (by exact rfl) ?_ (by omega) (by omega)
  refine jT_xiconst (k := 5) (pcN := 33) jI_379_32 rfl ?_
  refine jT_xisub (x := 5) (y := 5) (z := 0) (pcN := 34) jI_379_33 rfl (by decide) rfl ?_
  refine jT_xicT (pcN := 3746) jI_379_34 rfl (by decide +kernel) rfl ?_
  refine jT_xiconst (k := 1) (pcN := 3747) jI_379_3746 rfl ?_
  exact jT_ret rfl (by decide) (by show 30 ≤ 30; decide) (by omega) (by omega) ⟨rfl, rfl⟩
theorem jI_153_0 : jmI (jm 153) 0 = (.aload_n 0, 1) := by rfl
theorem jI_153_1 : jmI (jm 153) 1 = (.iload_n 1, 1) := by rfl
theorem jI_153_2 : jmI (jm 153) 2 = (.iconst 4, 1) := by rfl
theorem jA_153_1096 {xs : List Int} {d : Nat} {x1 : Int} (h_x1 : (-2147483648) ≤ x1 ∧ x1 ≤ (-1)) : jT xs (d + 1) 153 12 0 [(0, (4, 0)), (1, (0, x1))] [] jpA_6 1 6 (fun k v hsN => k = 1 ∧ v = (0, 0) ∧ hsN = jpA_6 ++ []) := by
  refine jT_xaload_n (v := (4, 0)) (pcN := 1) jI_153_0 rfl rfl rfl ?_
  refine jT_xiload_n (v := (0, x1)) (pcN := 2) jI_153_1 rfl rfl rfl ?_
  refine jT_xiconst (k := 4) (pcN := 3) jI_153_2 rfl ?_
  exact jT_fX [0] 12 (y := 115) (pcN := 6) (dC := 0) (bc1 := 1) (bc2 := 6) (as := [(4, 0), (0, x1), (0, 4)]) (asC := [(4, 0), (0, x1), (0, 4)]) (LN := [(0, (4, 0)), (1, (0, x1))]) (stN := []) (hsC := [jgh]) (e := 0) (jA_115_310 (d := 0) (by omega)) (by rfl) (by rfl) (by decide +kernel) (by rfl) (by rfl) (by omega) (by omega) (by omega) (by omega) ⟨rfl, ⟨rfl, rfl, rfl⟩⟩
theorem jI_357_0 : jmI (jm 357) 0 = (.aload_n 2, 1) := by rfl
theorem jI_357_1 : jmI (jm 357) 1 = (.iconst 0, 1) := by rfl
theorem jI_357_2 : jmI (jm 357) 2 = (.aload_n 0, 1) := by rfl
theorem jI_357_3 : jmI (jm 357) 3 = (.iload_n 1, 1) := by rfl
theorem jA_357_1097 {xs : List Int} {d : Nat} {x1 : Int} (h_x1 : (-2147483648) ≤ x1 ∧ x1 ≤ (-1)) : jT xs (d + 2) 357 13 0 [(0, (4, 0)), (1, (0, x1)), (2, (4, 1))] [] jpA_15 1 6 (fun k v hsN => k = 0 ∧ v = (0, 1) ∧ hsN = jpA_15 ++ []) := by
  refine jT_xaload_n (v := (4, 1)) (pcN := 1) jI_357_0 rfl rfl rfl ?_
  refine jT_xiconst (k := 0) (pcN := 2) jI_357_1 rfl ?_
  refine jT_xaload_n (v := (4, 0)) (pcN := 3) jI_357_2 rfl rfl rfl ?_
  refine jT_xiload_n (v := (0, x1)) (pcN := 4) jI_357_3 rfl rfl rfl ?_
  exact jT_fX [0, 2, 3, 4, 5, 6, 7, 8, 9, 10, 11, 12] 13 (y := 153) (pcN := 7) (dC := 1) (bc1 := 1) (bc2 := 6) (as := [(4, 0), (0, x1)]) (asC := [(4, 0), (0, x1)]) (LN := [(0, (4, 0)), (1, (0, x1)), (2, (4, 1))]) (stN := [(0, 0), (4, 1)]) (hsC := jpA_6) (e := 0) (jA_153_1096 (d := 0) (by omega)) (by rfl) (by rfl) (by decide +kernel) (by rfl) (by rfl) (by omega) (by omega) (by omega) (by omega) (show _ from ⟨rfl, rfl, rfl⟩)
theorem jI_285_0 : jmI (jm 285) 0 = (.aload_n 0, 1) := by rfl
theorem jI_285_1 : jmI (jm 285) 1 = (.iload_n 1, 1) := by rfl
theorem jI_285_8 : jmI (jm 285) 8 = (.ifCond .eq 5, 3) := by rfl
theorem jI_285_11 : jmI (jm 285) 11 = (.iconst 0, 1) := by rfl
theorem jA_285_1098 {xs : List Int} {d : Nat} {x1 : Int} (h_x1 : (-2147483648) ≤ x1 ∧ x1 ≤ (-1)) : jT xs (d + 2) 285 16 0 [(0, (4, 0)), (1, (0, x1))] [] jpA_22 0 0 (fun k v hsN => k = 0 ∧ v = (0, 0) ∧ hsN = jpA_20) := by
  refine jT_xaload_n (v := (4, 0)) (pcN := 1) jI_285_0 rfl rfl rfl ?_
  refine jT_xiload_n (v := (0, x1)) (pcN := 2) jI_285_1 rfl rfl rfl ?_
  refine jT_fR [] 16 (y := 238) (pcN := 5) (dC := 1) (bc1 := 0) (bc2 := 0) (c1 := 0) (c2 := 0) (as := [(0, x1)]) (asC := [(0, x1)]) (LN := [(0, (4, 0)), (1, (0, x1))]) (stN := [(4, 0)]) (hsC := []) (v := (0, 0)) (st2 := [(0, 0), (4, 0)]) (jA_238_313 (d := 0) (by omega)) (by rfl) (by rfl) (by decide +kernel) (by rfl) (by rfl) (by omega) (by omega) (by omega) (by omega) rfl ?_
  refine jT_fB [0, 1, 2, 3, 4, 5, 6, 7, 8, 9, 10, 11, 12, 13, 14, 15] 16 (y := 190) (pcN := 8) (dC := 1) (bc1 := 0) (bc2 := 0) (c1 := 0) (c2 := 0) (as := [(4, 0), (0, 0)]) (asC := [(4, 0), (0, 0)]) (LN := [(0, (4, 0)), (1, (0, x1))]) (stN := []) (hsC := jpA_22) (hsD := jpA_20) (v := (0, 1)) (st2 := [(0, 1)]) (hs2 := jpA_20) (jA_190_6 (d := 0)) (by rfl) (by rfl) (by decide +kernel) (by rfl) (by rfl) (by omega) (by omega) (by omega) (by omega) rfl (by decide +kernel) ?_
  refine jT_xifF (t := 13) (pcN := 11) jI_285_8 rfl (by decide +kernel) rfl rfl ?_
  refine jT_xiconst (k := 0) (pcN := 12) jI_285_11 rfl ?_
  exact jT_ret rfl (by decide) (by show 16 ≤ 16; decide) (by omega) (by omega) ⟨rfl, rfl, rfl⟩
theorem jA_13_1099 {xs : List Int} {d : Nat} : jT xs d 13 2 0 [(0, (4, 0))] [] [(4, [(4, 1), (1, 1)], []), (101, [], [0, 0, 0, 0, 0, 0])] 0 0 (fun k v hsN => k = 0 ∧ v = (0, 1) ∧ hsN = [(4, [(4, 1), (1, 1)], []), (101, [], [0, 0, 0, 0, 0, 0])] ++ []) := by
  refine jT_advK 66 (pcN := 28) (LN := [(1, (0, 6)), (0, (4, 0))]) (stN := [(0, 1)]) (hsN := [(4, [(4, 1), (1, 1)], []), (101, [], [0, 0, 0, 0, 0, 0])]) (c1 := 0) (s1 := 0) (c2 := 0) (s2 := 0) (by decide +kernel) ?_ (by omega) (by omega)
  exact jT_ret rfl (by decide) (by show 2 ≤ 2; decide) (by omega) (by omega) ⟨rfl, rfl, rfl⟩
theorem jA_18_1100 {xs : List Int} {d : Nat} : jT xs (d + 1) 18 2 0 [(0, (4, 0))] [] [(4, [(4, 1), (1, 1)], []), (101, [], [0, 0, 0, 0, 0, 0])] 0 0 (fun k v hsN => k = 0 ∧ v = (0, 1) ∧ hsN = [(4, [(4, 1), (1, 1)], []), (101, [], [0, 0, 0, 0, 0, 0])] ++ []) := by
  refine jT_advK 1 (pcN := 1) (LN := [(0, (4, 0))]) (stN := [(4, 0)]) (hsN := [(4, [(4, 1), (1, 1)], []), (101, [], [0, 0, 0, 0, 0, 0])]) (c1 := 0) (s1 := 0) (c2 := 0) (s2 := 0) (by decide +kernel) ?_ (by omega) (by omega)
  refine jT_fR [0, 1] 2 (y := 13) (pcN := 4) (dC := 0) (bc1 := 0) (bc2 := 0) (c1 := 0) (c2 := 0) (as := [(4, 0)]) (asC := [(4, 0)]) (LN := [(0, (4, 0))]) (stN := []) (hsC := [(4, [(4, 1), (1, 1)], []), (101, [], [0, 0, 0, 0, 0, 0])]) (v := (0, 1)) (st2 := [(0, 1)]) (jA_13_1099 (d := 0)) (by rfl) (by rfl) (by decide +kernel) (by rfl) (by rfl) (by omega) (by omega) (by omega) (by omega) rfl ?_
  refine jT_advK 10 (pcN := 23) (LN := [(0, (4, 0))]) (stN := [(0, 1)]) (hsN := [(4, [(4, 1), (1, 1)], []), (101, [], [0, 0, 0, 0, 0, 0])]) (c1 := 0) (s1 := 0) (c2 := 0) (s2 := 0) (by decide +kernel) ?_ (by omega) (by omega)
  exact jT_ret rfl (by decide) (by show 2 ≤ 2; decide) (by omega) (by omega) ⟨rfl, rfl, rfl⟩
theorem jA_154_1101 {xs : List Int} {d : Nat} : jT xs d 154 2 0 [(0, (4, 0)), (1, (4, 1)), (2, (0, 0))] [] [jgh, (100, [], [0])] 0 0 (fun k v hsN => k = 0 ∧ v = (0, 1) ∧ hsN = [jgh, (100, [], [0])] ++ []) := by
  refine jT_advK 25 (pcN := 31) (LN := [(3, (0, 1)), (0, (4, 0)), (1, (4, 1)), (2, (0, 0))]) (stN := [(0, 1)]) (hsN := [jgh, (100, [], [0])]) (c1 := 0) (s1 := 0) (c2 := 0) (s2 := 0) (by decide +kernel) ?_ (by omega) (by omega)
  exact jT_ret rfl (by decide) (by show 2 ≤ 2; decide) (by omega) (by omega) ⟨rfl, rfl, rfl⟩
theorem jA_153_1102 {xs : List Int} {d : Nat} : jT xs (d + 6) 153 26 0 [(0, (4, 0)), (1, (0, 0))] [] jpA_3742 7 19 (fun k v hsN => k = 0 ∧ v = (0, 1) ∧ hsN = jpA_3743) := by
  refine jT_advK 3 (pcN := 3) (LN := [(0, (4, 0)), (1, (0, 0))]) (stN := [(0, 4), (0, 0), (4, 0)]) (hsN := jpA_3742) (c1 := 0) (s1 := 0) (c2 := 7) (s2 := 19) (by decide +kernel) ?_ (by omega) (by omega)
  refine jT_fR [0] 26 (y := 115) (pcN := 6) (dC := 0) (bc1 := 0) (bc2 := 0) (c1 := 7) (c2 := 19) (as := [(4, 0), (0, 0), (0, 4)]) (asC := [(4, 0), (0, 0), (0, 4)]) (LN := [(0, (4, 0)), (1, (0, 0))]) (stN := []) (hsC := [jgh]) (v := (9, 0)) (st2 := []) (jA_115_321 (d := 0)) (by rfl) (by rfl) (by decide +kernel) (by rfl) (by rfl) (by omega) (by omega) (by omega) (by omega) rfl ?_
  refine jT_advK 3 (pcN := 11) (LN := [(0, (4, 0)), (1, (0, 0))]) (stN := [(0, 0), (4, 11)]) (hsN := jpA_3742) (c1 := 0) (s1 := 0) (c2 := 7) (s2 := 19) (by decide +kernel) ?_ (by omega) (by omega)
  refine jT_fR [11, 14, 15, 16, 17, 18, 19, 20, 21, 22] 26 (y := 56) (pcN := 14) (dC := 0) (bc1 := 0) (bc2 := 0) (c1 := 7) (c2 := 19) (as := [(4, 11), (0, 0)]) (asC := [(4, 0), (0, 0)]) (LN := [(0, (4, 0)), (1, (0, 0))]) (stN := []) (hsC := jpA_1446) (v := (4, 6)) (st2 := [(4, 19)]) (jA_56_322 (d := 0)) (by rfl) (by rfl) (by decide +kernel) (by rfl) (by rfl) (by omega) (by omega) (by omega) (by omega) rfl ?_
  refine jT_advK 3 (pcN := 17) (LN := [(2, (4, 19)), (0, (4, 0)), (1, (0, 0))]) (stN := [(0, 0), (4, 19)]) (hsN := jpA_3742) (c1 := 0) (s1 := 0) (c2 := 7) (s2 := 19) (by decide +kernel) ?_ (by omega) (by omega)
  refine jT_fR [19, 23, 24] 26 (y := 30) (pcN := 20) (dC := 0) (bc1 := 0) (bc2 := 0) (c1 := 7) (c2 := 19) (as := [(4, 19), (0, 0)]) (asC := [(4, 0), (0, 0)]) (LN := [(2, (4, 19)), (0, (4, 0)), (1, (0, 0))]) (stN := []) (hsC := [(7, [(4, 1), (4, (-1)), (4, (-1))], []), (114, [], [2]), jgh]) (v := (4, 2)) (st2 := [(4, 24)]) (jA_30_538 (d := 0)) (by rfl) (by rfl) (by decide +kernel) (by rfl) (by rfl) (by omega) (by omega) (by omega) (by omega) rfl ?_
  refine jT_fR [24, 25] 26 (y := 18) (pcN := 23) (dC := 1) (bc1 := 0) (bc2 := 0) (c1 := 7) (c2 := 19) (as := [(4, 24)]) (asC := [(4, 0)]) (LN := [(2, (4, 19)), (0, (4, 0)), (1, (0, 0))]) (stN := []) (hsC := [(4, [(4, 1), (1, 1)], []), (101, [], [0, 0, 0, 0, 0, 0])]) (v := (0, 1)) (st2 := [(0, 1)]) (jA_18_1100 (d := 0)) (by rfl) (by rfl) (by decide +kernel) (by rfl) (by rfl) (by omega) (by omega) (by omega) (by omega) rfl ?_
  refine jT_advK 4 (pcN := 33) (LN := [(2, (4, 19)), (0, (4, 0)), (1, (0, 0))]) (stN := [(4, 1), (4, 19)]) (hsN := jpA_3742) (c1 := 0) (s1 := 0) (c2 := 7) (s2 := 19) (by decide +kernel) ?_ (by omega) (by omega)
  refine jT_fB [19, 1, 23, 12, 13, 24, 25] 26 (y := 36) (pcN := 36) (dC := 5) (bc1 := 7) (bc2 := 19) (c1 := 0) (c2 := 0) (as := [(4, 19), (4, 1)]) (asC := [(4, 0), (4, 1)]) (LN := [(2, (4, 19)), (0, (4, 0)), (1, (0, 0))]) (stN := []) (hsC := jpA_3741) (hsD := jpA_3740) (v := (4, 13)) (st2 := [(4, 32)]) (hs2 := jpA_3743) (jA_36_1012 (d := 0)) (by rfl) (by rfl) (by decide +kernel) (by rfl) (by rfl) (by omega) (by omega) (by omega) (by omega) rfl (by decide +kernel) ?_
  refine jT_advK 13 (pcN := 56) (LN := [(5, (0, 0)), (4, (0, 0)), (3, (4, 32)), (2, (4, 19)), (0, (4, 0)), (1, (0, 0))]) (stN := [(0, 0), (4, 32), (4, 0), (0, 0)]) (hsN := jpA_3743) (c1 := 0) (s1 := 0) (c2 := 0) (s2 := 0) (by decide +kernel) ?_ (by omega) (by omega)
  refine jT_fR [0, 32] 33 (y := 154) (pcN := 59) (dC := 0) (bc1 := 0) (bc2 := 0) (c1 := 0) (c2 := 0) (as := [(4, 0), (4, 32), (0, 0)]) (asC := [(4, 0), (4, 1), (0, 0)]) (LN := [(5, (0, 0)), (4, (0, 0)), (3, (4, 32)), (2, (4, 19)), (0, (4, 0)), (1, (0, 0))]) (stN := [(0, 0)]) (hsC := [jgh, (100, [], [0])]) (v := (0, 1)) (st2 := [(0, 1), (0, 0)]) (jA_154_1101 (d := 0)) (by rfl) (by rfl) (by decide +kernel) (by rfl) (by rfl) (by omega) (by omega) (by omega) (by omega) rfl ?_
  refine jT_advK 12 (pcN := 78) (LN := [(5, (0, 1)), (4, (0, 1)), (3, (4, 32)), (2, (4, 19)), (0, (4, 0)), (1, (0, 0))]) (stN := [(0, 1)]) (hsN := jpA_3743) (c1 := 0) (s1 := 0) (c2 := 0) (s2 := 0) (by decide +kernel) ?_ (by omega) (by omega)
  exact jT_ret rfl (by decide) (by show 26 ≤ 33; decide) (by omega) (by omega) ⟨rfl, rfl, rfl⟩
theorem jA_357_1103 {xs : List Int} {d : Nat} : jT xs (d + 7) 357 27 0 [(0, (4, 0)), (1, (0, 0)), (2, (4, 1))] [] jpA_3744 7 19 (fun k v hsN => k = 0 ∧ v = (0, 0) ∧ hsN = jpA_3746) := by
  refine jT_advK 4 (pcN := 4) (LN := [(0, (4, 0)), (1, (0, 0)), (2, (4, 1))]) (stN := [(0, 0), (4, 0), (0, 0), (4, 1)]) (hsN := jpA_3744) (c1 := 0) (s1 := 0) (c2 := 7) (s2 := 19) (by decide +kernel) ?_ (by omega) (by omega)
  refine jT_fB [0, 2, 3, 4, 5, 6, 7, 8, 9, 10, 11, 12, 13, 14, 15, 16, 17, 18, 19, 20, 21, 22, 23, 24, 25, 26] 27 (y := 153) (pcN := 7) (dC := 6) (bc1 := 7) (bc2 := 19) (c1 := 0) (c2 := 0) (as := [(4, 0), (0, 0)]) (asC := [(4, 0), (0, 0)]) (LN := [(0, (4, 0)), (1, (0, 0)), (2, (4, 1))]) (stN := [(0, 0), (4, 1)]) (hsC := jpA_3742) (hsD := jpA_3743) (v := (0, 1)) (st2 := [(0, 1), (0, 0), (4, 1)]) (hs2 := jpA_3745) (jA_153_1102 (d := 0)) (by rfl) (by rfl) (by decide +kernel) (by rfl) (by rfl) (by omega) (by omega) (by omega) (by omega) rfl (by decide +kernel) ?_
  refine jT_advK 4 (pcN := 16) (LN := [(0, (4, 0)), (1, (0, 0)), (2, (4, 1))]) (stN := [(0, 0)]) (hsN := jpA_3746) (c1 := 0) (s1 := 0) (c2 := 0) (s2 := 0) (by decide +kernel) ?_ (by omega) (by omega)
  exact jT_ret rfl (by decide) (by show 27 ≤ 34; decide) (by omega) (by omega) ⟨rfl, rfl, rfl⟩
theorem jA_286_1104 {xs : List Int} {d : Nat} : jT xs (d + 6) 286 16 0 [(0, (4, 0)), (1, (0, 0)), (2, (0, 0))] [] jpA_3766 0 0 (fun k v hsN => k = 0 ∧ v = (0, 1) ∧ hsN = jpA_3766 ++ []) := by
  refine jT_advK 2 (pcN := 2) (LN := [(0, (4, 0)), (1, (0, 0)), (2, (0, 0))]) (stN := [(0, 0), (4, 0)]) (hsN := jpA_3766) (c1 := 0) (s1 := 0) (c2 := 0) (s2 := 0) (by decide +kernel) ?_ (by omega) (by omega)
  refine jT_fR [0, 1, 2, 3, 4, 5, 6, 7, 8, 9, 10, 11, 12, 13, 14, 15] 16 (y := 245) (pcN := 5) (dC := 0) (bc1 := 0) (bc2 := 0) (c1 := 0) (c2 := 0) (as := [(4, 0), (0, 0)]) (asC := [(4, 0), (0, 0)]) (LN := [(0, (4, 0)), (1, (0, 0)), (2, (0, 0))]) (stN := []) (hsC := jpA_1545) (v := (0, 1)) (st2 := [(0, 1)]) (jA_245_347 (d := 0)) (by rfl) (by rfl) (by decide +kernel) (by rfl) (by rfl) (by omega) (by omega) (by omega) (by omega) rfl ?_
  refine jT_advK 9 (pcN := 19) (LN := [(4, (0, 0)), (3, (0, 1)), (0, (4, 0)), (1, (0, 0)), (2, (0, 0))]) (stN := [(0, 0), (0, 0), (4, 0)]) (hsN := jpA_3766) (c1 := 0) (s1 := 0) (c2 := 0) (s2 := 0) (by decide +kernel) ?_ (by omega) (by omega)
  refine jT_fR [0, 1, 2, 3, 4, 5, 6, 7, 8, 9, 10, 11, 12, 13, 14, 15] 16 (y := 284) (pcN := 22) (dC := 5) (bc1 := 0) (bc2 := 0) (c1 := 0) (c2 := 0) (as := [(4, 0), (0, 0), (0, 0)]) (asC := [(4, 0), (0, 0), (0, 0)]) (LN := [(4, (0, 0)), (3, (0, 1)), (0, (4, 0)), (1, (0, 0)), (2, (0, 0))]) (stN := []) (hsC := jpA_3766) (v := (0, 0)) (st2 := [(0, 0)]) (jA_284_1049 (d := 0)) (by rfl) (by rfl) (by decide +kernel) (by rfl) (by rfl) (by omega) (by omega) (by omega) (by omega) rfl ?_
  refine jT_advK 7 (pcN := 30) (LN := [(4, (0, 0)), (3, (0, 1)), (0, (4, 0)), (1, (0, 0)), (2, (0, 0))]) (stN := [(0, 0), (0, 0), (4, 0), (0, 0)]) (hsN := jpA_3766) (c1 := 0) (s1 := 0) (c2 := 0) (s2 := 0) (by decide +kernel) ?_ (by omega) (by omega)
  refine jT_fR [0, 1, 2, 3, 4, 5, 6, 7, 8, 9, 10, 11, 12, 13, 14, 15] 16 (y := 284) (pcN := 33) (dC := 5) (bc1 := 0) (bc2 := 0) (c1 := 0) (c2 := 0) (as := [(4, 0), (0, 0), (0, 0)]) (asC := [(4, 0), (0, 0), (0, 0)]) (LN := [(4, (0, 0)), (3, (0, 1)), (0, (4, 0)), (1, (0, 0)), (2, (0, 0))]) (stN := [(0, 0)]) (hsC := jpA_3766) (v := (0, 0)) (st2 := [(0, 0), (0, 0)]) (jA_284_1049 (d := 0)) (by rfl) (by rfl) (by decide +kernel) (by rfl) (by rfl) (by omega) (by omega) (by omega) (by omega) rfl ?_
  refine jT_advK 7 (pcN := 45) (LN := [(4, (0, 1)), (3, (0, 1)), (0, (4, 0)), (1, (0, 0)), (2, (0, 0))]) (stN := [(0, 1)]) (hsN := jpA_3766) (c1 := 0) (s1 := 0) (c2 := 0) (s2 := 0) (by decide +kernel) ?_ (by omega) (by omega)
  exact jT_ret rfl (by decide) (by show 16 ≤ 16; decide) (by omega) (by omega) ⟨rfl, rfl, rfl⟩
theorem jA_285_1105 {xs : List Int} {d : Nat} : jT xs (d + 7) 285 16 0 [(0, (4, 0)), (1, (0, 0))] [] jpA_1840 0 0 (fun k v hsN => k = 0 ∧ v = (0, 1) ∧ hsN = jpA_3766) := by
  refine jT_advK 2 (pcN := 2) (LN := [(0, (4, 0)), (1, (0, 0))]) (stN := [(0, 0), (4, 0)]) (hsN := jpA_1840) (c1 := 0) (s1 := 0) (c2 := 0) (s2 := 0) (by decide +kernel) ?_ (by omega) (by omega)
  refine jT_fR [] 16 (y := 238) (pcN := 5) (dC := 1) (bc1 := 0) (bc2 := 0) (c1 := 0) (c2 := 0) (as := [(0, 0)]) (asC := [(0, 0)]) (LN := [(0, (4, 0)), (1, (0, 0))]) (stN := [(4, 0)]) (hsC := []) (v := (0, 1)) (st2 := [(0, 1), (4, 0)]) (jA_238_338 (d := 0)) (by rfl) (by rfl) (by decide +kernel) (by rfl) (by rfl) (by omega) (by omega) (by omega) (by omega) rfl ?_
  refine jT_fR [0, 1, 2, 3, 4, 5, 6, 7, 8, 9, 10, 11, 12, 13, 14, 15] 16 (y := 190) (pcN := 8) (dC := 1) (bc1 := 0) (bc2 := 0) (c1 := 0) (c2 := 0) (as := [(4, 0), (0, 1)]) (asC := [(4, 0), (0, 1)]) (LN := [(0, (4, 0)), (1, (0, 0))]) (stN := []) (hsC := jpA_22) (v := (0, 0)) (st2 := [(0, 0)]) (jA_190_39 (d := 0)) (by rfl) (by rfl) (by decide +kernel) (by rfl) (by rfl) (by omega) (by omega) (by omega) (by omega) rfl ?_
  refine jT_advK 2 (pcN := 14) (LN := [(0, (4, 0)), (1, (0, 0))]) (stN := [(4, 0)]) (hsN := jpA_1840) (c1 := 0) (s1 := 0) (c2 := 0) (s2 := 0) (by decide +kernel) ?_ (by omega) (by omega)
  refine jT_fR [0, 1, 2, 3, 4, 5, 6, 7, 8, 9, 10, 11, 12, 13, 14, 15] 16 (y := 193) (pcN := 17) (dC := 0) (bc1 := 0) (bc2 := 0) (c1 := 0) (c2 := 0) (as := [(4, 0)]) (asC := [(4, 0)]) (LN := [(0, (4, 0)), (1, (0, 0))]) (stN := []) (hsC := jpA_147) (v := (9, 0)) (st2 := []) (jA_193_649 (d := 0)) (by rfl) (by rfl) (by decide +kernel) (by rfl) (by rfl) (by omega) (by omega) (by omega) (by omega) rfl ?_
  refine jT_advK 2 (pcN := 19) (LN := [(0, (4, 0)), (1, (0, 0))]) (stN := [(0, 0), (4, 0)]) (hsN := jpA_1840) (c1 := 0) (s1 := 0) (c2 := 0) (s2 := 0) (by decide +kernel) ?_ (by omega) (by omega)
  refine jT_fR [0, 1, 2, 3, 4, 5, 6, 7, 8, 9, 10, 11, 12, 13, 14, 15] 16 (y := 244) (pcN := 22) (dC := 1) (bc1 := 0) (bc2 := 0) (c1 := 0) (c2 := 0) (as := [(4, 0), (0, 0)]) (asC := [(4, 0), (0, 0)]) (LN := [(0, (4, 0)), (1, (0, 0))]) (stN := []) (hsC := jpA_130) (v := (0, 1)) (st2 := [(0, 1)]) (jA_244_342 (d := 0)) (by rfl) (by rfl) (by decide +kernel) (by rfl) (by rfl) (by omega) (by omega) (by omega) (by omega) rfl ?_
  refine jT_advK 3 (pcN := 29) (LN := [(0, (4, 0)), (1, (0, 0))]) (stN := [(0, 0), (4, 0)]) (hsN := jpA_1840) (c1 := 0) (s1 := 0) (c2 := 0) (s2 := 0) (by decide +kernel) ?_ (by omega) (by omega)
  refine jT_fB [0, 1, 2, 3, 4, 5, 6, 7, 8, 9, 10, 11, 12, 13, 14, 15] 16 (y := 282) (pcN := 32) (dC := 5) (bc1 := 0) (bc2 := 0) (c1 := 0) (c2 := 0) (as := [(4, 0), (0, 0)]) (asC := [(4, 0), (0, 0)]) (LN := [(0, (4, 0)), (1, (0, 0))]) (stN := []) (hsC := jpA_1840) (hsD := jpA_3766) (v := (9, 0)) (st2 := []) (hs2 := jpA_3766) (jA_282_1018 (d := 0)) (by rfl) (by rfl) (by decide +kernel) (by rfl) (by rfl) (by omega) (by omega) (by omega) (by omega) rfl (by decide +kernel) ?_
  refine jT_advK 7 (pcN := 39) (LN := [(3, (0, 0)), (2, (0, 0)), (0, (4, 0)), (1, (0, 0))]) (stN := [(0, 0), (4, 0), (0, 0)]) (hsN := jpA_3766) (c1 := 0) (s1 := 0) (c2 := 0) (s2 := 0) (by decide +kernel) ?_ (by omega) (by omega)
  refine jT_fR [0, 1, 2, 3, 4, 5, 6, 7, 8, 9, 10, 11, 12, 13, 14, 15] 16 (y := 245) (pcN := 42) (dC := 0) (bc1 := 0) (bc2 := 0) (c1 := 0) (c2 := 0) (as := [(4, 0), (0, 0)]) (asC := [(4, 0), (0, 0)]) (LN := [(3, (0, 0)), (2, (0, 0)), (0, (4, 0)), (1, (0, 0))]) (stN := [(0, 0)]) (hsC := jpA_1545) (v := (0, 1)) (st2 := [(0, 1), (0, 0)]) (jA_245_347 (d := 0)) (by rfl) (by rfl) (by decide +kernel) (by rfl) (by rfl) (by omega) (by omega) (by omega) (by omega) rfl ?_
  refine jT_advK 5 (pcN := 49) (LN := [(3, (0, 0)), (2, (0, 0)), (0, (4, 0)), (1, (0, 0))]) (stN := [(0, 0), (0, 0), (4, 0), (0, 0)]) (hsN := jpA_3766) (c1 := 0) (s1 := 0) (c2 := 0) (s2 := 0) (by decide +kernel) ?_ (by omega) (by omega)
  refine jT_fR [0, 1, 2, 3, 4, 5, 6, 7, 8, 9, 10, 11, 12, 13, 14, 15] 16 (y := 286) (pcN := 52) (dC := 6) (bc1 := 0) (bc2 := 0) (c1 := 0) (c2 := 0) (as := [(4, 0), (0, 0), (0, 0)]) (asC := [(4, 0), (0, 0), (0, 0)]) (LN := [(3, (0, 0)), (2, (0, 0)), (0, (4, 0)), (1, (0, 0))]) (stN := [(0, 0)]) (hsC := jpA_3766) (v := (0, 1)) (st2 := [(0, 1), (0, 0)]) (jA_286_1104 (d := 0)) (by rfl) (by rfl) (by decide +kernel) (by rfl) (by rfl) (by omega) (by omega) (by omega) (by omega) rfl ?_
  refine jT_advK 10 (pcN := 39) (LN := [(3, (0, 1)), (2, (0, 1)), (0, (4, 0)), (1, (0, 0))]) (stN := [(0, 0), (4, 0), (0, 1)]) (hsN := jpA_3766) (c1 := 0) (s1 := 0) (c2 := 0) (s2 := 0) (by decide +kernel) ?_ (by omega) (by omega)
  refine jT_fR [0, 1, 2, 3, 4, 5, 6, 7, 8, 9, 10, 11, 12, 13, 14, 15] 16 (y := 245) (pcN := 42) (dC := 0) (bc1 := 0) (bc2 := 0) (c1 := 0) (c2 := 0) (as := [(4, 0), (0, 0)]) (asC := [(4, 0), (0, 0)]) (LN := [(3, (0, 1)), (2, (0, 1)), (0, (4, 0)), (1, (0, 0))]) (stN := [(0, 1)]) (hsC := jpA_1545) (v := (0, 1)) (st2 := [(0, 1), (0, 1)]) (jA_245_347 (d := 0)) (by rfl) (by rfl) (by decide +kernel) (by rfl) (by rfl) (by omega) (by omega) (by omega) (by omega) rfl ?_
  refine jT_advK 2 (pcN := 69) (LN := [(3, (0, 1)), (2, (0, 1)), (0, (4, 0)), (1, (0, 0))]) (stN := [(0, 1)]) (hsN := jpA_3766) (c1 := 0) (s1 := 0) (c2 := 0) (s2 := 0) (by decide +kernel) ?_ (by omega) (by omega)
  exact jT_ret rfl (by decide) (by show 16 ≤ 16; decide) (by omega) (by omega) ⟨rfl, rfl, rfl⟩
theorem jA_153_1106 {xs : List Int} {d : Nat} : jT xs (d + 6) 153 26 0 [(0, (4, 0)), (1, (0, 1))] [] jpA_3768 7 19 (fun k v hsN => k = 0 ∧ v = (0, 1) ∧ hsN = jpA_3769) := by
  refine jT_advK 3 (pcN := 3) (LN := [(0, (4, 0)), (1, (0, 1))]) (stN := [(0, 4), (0, 1), (4, 0)]) (hsN := jpA_3768) (c1 := 0) (s1 := 0) (c2 := 7) (s2 := 19) (by decide +kernel) ?_ (by omega) (by omega)
  refine jT_fR [0] 26 (y := 115) (pcN := 6) (dC := 0) (bc1 := 0) (bc2 := 0) (c1 := 7) (c2 := 19) (as := [(4, 0), (0, 1), (0, 4)]) (asC := [(4, 0), (0, 1), (0, 4)]) (LN := [(0, (4, 0)), (1, (0, 1))]) (stN := []) (hsC := [jgh]) (v := (9, 0)) (st2 := []) (jA_115_356 (d := 0)) (by rfl) (by rfl) (by decide +kernel) (by rfl) (by rfl) (by omega) (by omega) (by omega) (by omega) rfl ?_
  refine jT_advK 3 (pcN := 11) (LN := [(0, (4, 0)), (1, (0, 1))]) (stN := [(0, 1), (4, 11)]) (hsN := jpA_3768) (c1 := 0) (s1 := 0) (c2 := 7) (s2 := 19) (by decide +kernel) ?_ (by omega) (by omega)
  refine jT_fR [11, 14, 15, 16, 17, 18, 19, 20, 21, 22] 26 (y := 56) (pcN := 14) (dC := 0) (bc1 := 0) (bc2 := 0) (c1 := 7) (c2 := 19) (as := [(4, 11), (0, 1)]) (asC := [(4, 0), (0, 1)]) (LN := [(0, (4, 0)), (1, (0, 1))]) (stN := []) (hsC := jpA_1446) (v := (4, 7)) (st2 := [(4, 20)]) (jA_56_357 (d := 0)) (by rfl) (by rfl) (by decide +kernel) (by rfl) (by rfl) (by omega) (by omega) (by omega) (by omega) rfl ?_
  refine jT_advK 3 (pcN := 17) (LN := [(2, (4, 20)), (0, (4, 0)), (1, (0, 1))]) (stN := [(0, 0), (4, 20)]) (hsN := jpA_3768) (c1 := 0) (s1 := 0) (c2 := 7) (s2 := 19) (by decide +kernel) ?_ (by omega) (by omega)
  refine jT_fR [20, 23, 24] 26 (y := 30) (pcN := 20) (dC := 0) (bc1 := 0) (bc2 := 0) (c1 := 7) (c2 := 19) (as := [(4, 20), (0, 0)]) (asC := [(4, 0), (0, 0)]) (LN := [(2, (4, 20)), (0, (4, 0)), (1, (0, 1))]) (stN := []) (hsC := [(7, [(4, 1), (4, (-1)), (4, (-1))], []), (114, [], [2]), jgh]) (v := (4, 2)) (st2 := [(4, 24)]) (jA_30_538 (d := 0)) (by rfl) (by rfl) (by decide +kernel) (by rfl) (by rfl) (by omega) (by omega) (by omega) (by omega) rfl ?_
  refine jT_fR [24, 25] 26 (y := 18) (pcN := 23) (dC := 1) (bc1 := 0) (bc2 := 0) (c1 := 7) (c2 := 19) (as := [(4, 24)]) (asC := [(4, 0)]) (LN := [(2, (4, 20)), (0, (4, 0)), (1, (0, 1))]) (stN := []) (hsC := [(4, [(4, 1), (1, 1)], []), (101, [], [0, 0, 0, 0, 0, 0])]) (v := (0, 1)) (st2 := [(0, 1)]) (jA_18_1100 (d := 0)) (by rfl) (by rfl) (by decide +kernel) (by rfl) (by rfl) (by omega) (by omega) (by omega) (by omega) rfl ?_
  refine jT_advK 4 (pcN := 33) (LN := [(2, (4, 20)), (0, (4, 0)), (1, (0, 1))]) (stN := [(4, 1), (4, 20)]) (hsN := jpA_3768) (c1 := 0) (s1 := 0) (c2 := 7) (s2 := 19) (by decide +kernel) ?_ (by omega) (by omega)
  refine jT_fB [20, 1, 23, 12, 13, 24, 25] 26 (y := 36) (pcN := 36) (dC := 5) (bc1 := 7) (bc2 := 19) (c1 := 0) (c2 := 0) (as := [(4, 20), (4, 1)]) (asC := [(4, 0), (4, 1)]) (LN := [(2, (4, 20)), (0, (4, 0)), (1, (0, 1))]) (stN := []) (hsC := jpA_3741) (hsD := jpA_3740) (v := (4, 13)) (st2 := [(4, 32)]) (hs2 := jpA_3769) (jA_36_1012 (d := 0)) (by rfl) (by rfl) (by decide +kernel) (by rfl) (by rfl) (by omega) (by omega) (by omega) (by omega) rfl (by decide +kernel) ?_
  refine jT_advK 13 (pcN := 56) (LN := [(5, (0, 0)), (4, (0, 0)), (3, (4, 32)), (2, (4, 20)), (0, (4, 0)), (1, (0, 1))]) (stN := [(0, 0), (4, 32), (4, 0), (0, 0)]) (hsN := jpA_3769) (c1 := 0) (s1 := 0) (c2 := 0) (s2 := 0) (by decide +kernel) ?_ (by omega) (by omega)
  refine jT_fR [0, 32] 33 (y := 154) (pcN := 59) (dC := 0) (bc1 := 0) (bc2 := 0) (c1 := 0) (c2 := 0) (as := [(4, 0), (4, 32), (0, 0)]) (asC := [(4, 0), (4, 1), (0, 0)]) (LN := [(5, (0, 0)), (4, (0, 0)), (3, (4, 32)), (2, (4, 20)), (0, (4, 0)), (1, (0, 1))]) (stN := [(0, 0)]) (hsC := [jgh, (100, [], [0])]) (v := (0, 1)) (st2 := [(0, 1), (0, 0)]) (jA_154_1101 (d := 0)) (by rfl) (by rfl) (by decide +kernel) (by rfl) (by rfl) (by omega) (by omega) (by omega) (by omega) rfl ?_
  refine jT_advK 12 (pcN := 78) (LN := [(5, (0, 1)), (4, (0, 1)), (3, (4, 32)), (2, (4, 20)), (0, (4, 0)), (1, (0, 1))]) (stN := [(0, 1)]) (hsN := jpA_3769) (c1 := 0) (s1 := 0) (c2 := 0) (s2 := 0) (by decide +kernel) ?_ (by omega) (by omega)
  exact jT_ret rfl (by decide) (by show 26 ≤ 33; decide) (by omega) (by omega) ⟨rfl, rfl, rfl⟩
theorem jA_357_1107 {xs : List Int} {d : Nat} : jT xs (d + 7) 357 27 0 [(0, (4, 0)), (1, (0, 1)), (2, (4, 1))] [] jpA_3770 7 19 (fun k v hsN => k = 0 ∧ v = (0, 0) ∧ hsN = jpA_3772) := by
  refine jT_advK 4 (pcN := 4) (LN := [(0, (4, 0)), (1, (0, 1)), (2, (4, 1))]) (stN := [(0, 1), (4, 0), (0, 0), (4, 1)]) (hsN := jpA_3770) (c1 := 0) (s1 := 0) (c2 := 7) (s2 := 19) (by decide +kernel) ?_ (by omega) (by omega)
  refine jT_fB [0, 2, 3, 4, 5, 6, 7, 8, 9, 10, 11, 12, 13, 14, 15, 16, 17, 18, 19, 20, 21, 22, 23, 24, 25, 26] 27 (y := 153) (pcN := 7) (dC := 6) (bc1 := 7) (bc2 := 19) (c1 := 0) (c2 := 0) (as := [(4, 0), (0, 1)]) (asC := [(4, 0), (0, 1)]) (LN := [(0, (4, 0)), (1, (0, 1)), (2, (4, 1))]) (stN := [(0, 0), (4, 1)]) (hsC := jpA_3768) (hsD := jpA_3769) (v := (0, 1)) (st2 := [(0, 1), (0, 0), (4, 1)]) (hs2 := jpA_3771) (jA_153_1106 (d := 0)) (by rfl) (by rfl) (by decide +kernel) (by rfl) (by rfl) (by omega) (by omega) (by omega) (by omega) rfl (by decide +kernel) ?_
  refine jT_advK 4 (pcN := 16) (LN := [(0, (4, 0)), (1, (0, 1)), (2, (4, 1))]) (stN := [(0, 0)]) (hsN := jpA_3772) (c1 := 0) (s1 := 0) (c2 := 0) (s2 := 0) (by decide +kernel) ?_ (by omega) (by omega)
  exact jT_ret rfl (by decide) (by show 27 ≤ 34; decide) (by omega) (by omega) ⟨rfl, rfl, rfl⟩
theorem jA_286_1108 {xs : List Int} {d : Nat} : jT xs (d + 6) 286 16 0 [(0, (4, 0)), (1, (0, 1)), (2, (0, 0))] [] jpA_3766 0 0 (fun k v hsN => k = 0 ∧ v = (0, 1) ∧ hsN = jpA_3766 ++ []) := by
  refine jT_advK 2 (pcN := 2) (LN := [(0, (4, 0)), (1, (0, 1)), (2, (0, 0))]) (stN := [(0, 1), (4, 0)]) (hsN := jpA_3766) (c1 := 0) (s1 := 0) (c2 := 0) (s2 := 0) (by decide +kernel) ?_ (by omega) (by omega)
  refine jT_fR [0, 1, 2, 3, 4, 5, 6, 7, 8, 9, 10, 11, 12, 13, 14, 15] 16 (y := 245) (pcN := 5) (dC := 0) (bc1 := 0) (bc2 := 0) (c1 := 0) (c2 := 0) (as := [(4, 0), (0, 1)]) (asC := [(4, 0), (0, 1)]) (LN := [(0, (4, 0)), (1, (0, 1)), (2, (0, 0))]) (stN := []) (hsC := jpA_1545) (v := (0, 1)) (st2 := [(0, 1)]) (jA_245_368 (d := 0)) (by rfl) (by rfl) (by decide +kernel) (by rfl) (by rfl) (by omega) (by omega) (by omega) (by omega) rfl ?_
  refine jT_advK 9 (pcN := 19) (LN := [(4, (0, 0)), (3, (0, 1)), (0, (4, 0)), (1, (0, 1)), (2, (0, 0))]) (stN := [(0, 0), (0, 1), (4, 0)]) (hsN := jpA_3766) (c1 := 0) (s1 := 0) (c2 := 0) (s2 := 0) (by decide +kernel) ?_ (by omega) (by omega)
  refine jT_fR [0, 1, 2, 3, 4, 5, 6, 7, 8, 9, 10, 11, 12, 13, 14, 15] 16 (y := 284) (pcN := 22) (dC := 5) (bc1 := 0) (bc2 := 0) (c1 := 0) (c2 := 0) (as := [(4, 0), (0, 1), (0, 0)]) (asC := [(4, 0), (0, 1), (0, 0)]) (LN := [(4, (0, 0)), (3, (0, 1)), (0, (4, 0)), (1, (0, 1)), (2, (0, 0))]) (stN := []) (hsC := jpA_3766) (v := (0, 0)) (st2 := [(0, 0)]) (jA_284_1062 (d := 0)) (by rfl) (by rfl) (by decide +kernel) (by rfl) (by rfl) (by omega) (by omega) (by omega) (by omega) rfl ?_
  refine jT_advK 7 (pcN := 30) (LN := [(4, (0, 0)), (3, (0, 1)), (0, (4, 0)), (1, (0, 1)), (2, (0, 0))]) (stN := [(0, 0), (0, 1), (4, 0), (0, 0)]) (hsN := jpA_3766) (c1 := 0) (s1 := 0) (c2 := 0) (s2 := 0) (by decide +kernel) ?_ (by omega) (by omega)
  refine jT_fR [0, 1, 2, 3, 4, 5, 6, 7, 8, 9, 10, 11, 12, 13, 14, 15] 16 (y := 284) (pcN := 33) (dC := 5) (bc1 := 0) (bc2 := 0) (c1 := 0) (c2 := 0) (as := [(4, 0), (0, 1), (0, 0)]) (asC := [(4, 0), (0, 1), (0, 0)]) (LN := [(4, (0, 0)), (3, (0, 1)), (0, (4, 0)), (1, (0, 1)), (2, (0, 0))]) (stN := [(0, 0)]) (hsC := jpA_3766) (v := (0, 0)) (st2 := [(0, 0), (0, 0)]) (jA_284_1062 (d := 0)) (by rfl) (by rfl) (by decide +kernel) (by rfl) (by rfl) (by omega) (by omega) (by omega) (by omega) rfl ?_
  refine jT_advK 7 (pcN := 45) (LN := [(4, (0, 1)), (3, (0, 1)), (0, (4, 0)), (1, (0, 1)), (2, (0, 0))]) (stN := [(0, 1)]) (hsN := jpA_3766) (c1 := 0) (s1 := 0) (c2 := 0) (s2 := 0) (by decide +kernel) ?_ (by omega) (by omega)
  exact jT_ret rfl (by decide) (by show 16 ≤ 16; decide) (by omega) (by omega) ⟨rfl, rfl, rfl⟩
theorem jA_285_1109 {xs : List Int} {d : Nat} : jT xs (d + 7) 285 16 0 [(0, (4, 0)), (1, (0, 1))] [] jpA_1840 0 0 (fun k v hsN => k = 0 ∧ v = (0, 1) ∧ hsN = jpA_3766) := by
  refine jT_advK 2 (pcN := 2) (LN := [(0, (4, 0)), (1, (0, 1))]) (stN := [(0, 1), (4, 0)]) (hsN := jpA_1840) (c1 := 0) (s1 := 0) (c2 := 0) (s2 := 0) (by decide +kernel) ?_ (by omega) (by omega)
  refine jT_fR [] 16 (y := 238) (pcN := 5) (dC := 1) (bc1 := 0) (bc2 := 0) (c1 := 0) (c2 := 0) (as := [(0, 1)]) (asC := [(0, 1)]) (LN := [(0, (4, 0)), (1, (0, 1))]) (stN := [(4, 0)]) (hsC := []) (v := (0, 1)) (st2 := [(0, 1), (4, 0)]) (jA_238_362 (d := 0)) (by rfl) (by rfl) (by decide +kernel) (by rfl) (by rfl) (by omega) (by omega) (by omega) (by omega) rfl ?_
  refine jT_fR [0, 1, 2, 3, 4, 5, 6, 7, 8, 9, 10, 11, 12, 13, 14, 15] 16 (y := 190) (pcN := 8) (dC := 1) (bc1 := 0) (bc2 := 0) (c1 := 0) (c2 := 0) (as := [(4, 0), (0, 1)]) (asC := [(4, 0), (0, 1)]) (LN := [(0, (4, 0)), (1, (0, 1))]) (stN := []) (hsC := jpA_22) (v := (0, 0)) (st2 := [(0, 0)]) (jA_190_39 (d := 0)) (by rfl) (by rfl) (by decide +kernel) (by rfl) (by rfl) (by omega) (by omega) (by omega) (by omega) rfl ?_
  refine jT_advK 2 (pcN := 14) (LN := [(0, (4, 0)), (1, (0, 1))]) (stN := [(4, 0)]) (hsN := jpA_1840) (c1 := 0) (s1 := 0) (c2 := 0) (s2 := 0) (by decide +kernel) ?_ (by omega) (by omega)
  refine jT_fR [0, 1, 2, 3, 4, 5, 6, 7, 8, 9, 10, 11, 12, 13, 14, 15] 16 (y := 193) (pcN := 17) (dC := 0) (bc1 := 0) (bc2 := 0) (c1 := 0) (c2 := 0) (as := [(4, 0)]) (asC := [(4, 0)]) (LN := [(0, (4, 0)), (1, (0, 1))]) (stN := []) (hsC := jpA_147) (v := (9, 0)) (st2 := []) (jA_193_649 (d := 0)) (by rfl) (by rfl) (by decide +kernel) (by rfl) (by rfl) (by omega) (by omega) (by omega) (by omega) rfl ?_
  refine jT_advK 2 (pcN := 19) (LN := [(0, (4, 0)), (1, (0, 1))]) (stN := [(0, 1), (4, 0)]) (hsN := jpA_1840) (c1 := 0) (s1 := 0) (c2 := 0) (s2 := 0) (by decide +kernel) ?_ (by omega) (by omega)
  refine jT_fR [0, 1, 2, 3, 4, 5, 6, 7, 8, 9, 10, 11, 12, 13, 14, 15] 16 (y := 244) (pcN := 22) (dC := 1) (bc1 := 0) (bc2 := 0) (c1 := 0) (c2 := 0) (as := [(4, 0), (0, 1)]) (asC := [(4, 0), (0, 1)]) (LN := [(0, (4, 0)), (1, (0, 1))]) (stN := []) (hsC := jpA_130) (v := (0, 1)) (st2 := [(0, 1)]) (jA_244_366 (d := 0)) (by rfl) (by rfl) (by decide +kernel) (by rfl) (by rfl) (by omega) (by omega) (by omega) (by omega) rfl ?_
  refine jT_advK 3 (pcN := 29) (LN := [(0, (4, 0)), (1, (0, 1))]) (stN := [(0, 1), (4, 0)]) (hsN := jpA_1840) (c1 := 0) (s1 := 0) (c2 := 0) (s2 := 0) (by decide +kernel) ?_ (by omega) (by omega)
  refine jT_fB [0, 1, 2, 3, 4, 5, 6, 7, 8, 9, 10, 11, 12, 13, 14, 15] 16 (y := 282) (pcN := 32) (dC := 5) (bc1 := 0) (bc2 := 0) (c1 := 0) (c2 := 0) (as := [(4, 0), (0, 1)]) (asC := [(4, 0), (0, 1)]) (LN := [(0, (4, 0)), (1, (0, 1))]) (stN := []) (hsC := jpA_1840) (hsD := jpA_3766) (v := (9, 0)) (st2 := []) (hs2 := jpA_3766) (jA_282_1023 (d := 0)) (by rfl) (by rfl) (by decide +kernel) (by rfl) (by rfl) (by omega) (by omega) (by omega) (by omega) rfl (by decide +kernel) ?_
  refine jT_advK 7 (pcN := 39) (LN := [(3, (0, 0)), (2, (0, 0)), (0, (4, 0)), (1, (0, 1))]) (stN := [(0, 1), (4, 0), (0, 0)]) (hsN := jpA_3766) (c1 := 0) (s1 := 0) (c2 := 0) (s2 := 0) (by decide +kernel) ?_ (by omega) (by omega)
  refine jT_fR [0, 1, 2, 3, 4, 5, 6, 7, 8, 9, 10, 11, 12, 13, 14, 15] 16 (y := 245) (pcN := 42) (dC := 0) (bc1 := 0) (bc2 := 0) (c1 := 0) (c2 := 0) (as := [(4, 0), (0, 1)]) (asC := [(4, 0), (0, 1)]) (LN := [(3, (0, 0)), (2, (0, 0)), (0, (4, 0)), (1, (0, 1))]) (stN := [(0, 0)]) (hsC := jpA_1545) (v := (0, 1)) (st2 := [(0, 1), (0, 0)]) (jA_245_368 (d := 0)) (by rfl) (by rfl) (by decide +kernel) (by rfl) (by rfl) (by omega) (by omega) (by omega) (by omega) rfl ?_
  refine jT_advK 5 (pcN := 49) (LN := [(3, (0, 0)), (2, (0, 0)), (0, (4, 0)), (1, (0, 1))]) (stN := [(0, 0), (0, 1), (4, 0), (0, 0)]) (hsN := jpA_3766) (c1 := 0) (s1 := 0) (c2 := 0) (s2 := 0) (by decide +kernel) ?_ (by omega) (by omega)
  refine jT_fR [0, 1, 2, 3, 4, 5, 6, 7, 8, 9, 10, 11, 12, 13, 14, 15] 16 (y := 286) (pcN := 52) (dC := 6) (bc1 := 0) (bc2 := 0) (c1 := 0) (c2 := 0) (as := [(4, 0), (0, 1), (0, 0)]) (asC := [(4, 0), (0, 1), (0, 0)]) (LN := [(3, (0, 0)), (2, (0, 0)), (0, (4, 0)), (1, (0, 1))]) (stN := [(0, 0)]) (hsC := jpA_3766) (v := (0, 1)) (st2 := [(0, 1), (0, 0)]) (jA_286_1108 (d := 0)) (by rfl) (by rfl) (by decide +kernel) (by rfl) (by rfl) (by omega) (by omega) (by omega) (by omega) rfl ?_
  refine jT_advK 10 (pcN := 39) (LN := [(3, (0, 1)), (2, (0, 1)), (0, (4, 0)), (1, (0, 1))]) (stN := [(0, 1), (4, 0), (0, 1)]) (hsN := jpA_3766) (c1 := 0) (s1 := 0) (c2 := 0) (s2 := 0) (by decide +kernel) ?_ (by omega) (by omega)
  refine jT_fR [0, 1, 2, 3, 4, 5, 6, 7, 8, 9, 10, 11, 12, 13, 14, 15] 16 (y := 245) (pcN := 42) (dC := 0) (bc1 := 0) (bc2 := 0) (c1 := 0) (c2 := 0) (as := [(4, 0), (0, 1)]) (asC := [(4, 0), (0, 1)]) (LN := [(3, (0, 1)), (2, (0, 1)), (0, (4, 0)), (1, (0, 1))]) (stN := [(0, 1)]) (hsC := jpA_1545) (v := (0, 1)) (st2 := [(0, 1), (0, 1)]) (jA_245_368 (d := 0)) (by rfl) (by rfl) (by decide +kernel) (by rfl) (by rfl) (by omega) (by omega) (by omega) (by omega) rfl ?_
  refine jT_advK 2 (pcN := 69) (LN := [(3, (0, 1)), (2, (0, 1)), (0, (4, 0)), (1, (0, 1))]) (stN := [(0, 1)]) (hsN := jpA_3766) (c1 := 0) (s1 := 0) (c2 := 0) (s2 := 0) (by decide +kernel) ?_ (by omega) (by omega)
  exact jT_ret rfl (by decide) (by show 16 ≤ 16; decide) (by omega) (by omega) ⟨rfl, rfl, rfl⟩
theorem jA_153_1110 {xs : List Int} {d : Nat} : jT xs (d + 6) 153 26 0 [(0, (4, 0)), (1, (0, 2))] [] jpA_3773 7 19 (fun k v hsN => k = 0 ∧ v = (0, 1) ∧ hsN = jpA_3774) := by
  refine jT_advK 3 (pcN := 3) (LN := [(0, (4, 0)), (1, (0, 2))]) (stN := [(0, 4), (0, 2), (4, 0)]) (hsN := jpA_3773) (c1 := 0) (s1 := 0) (c2 := 7) (s2 := 19) (by decide +kernel) ?_ (by omega) (by omega)
  refine jT_fR [0] 26 (y := 115) (pcN := 6) (dC := 0) (bc1 := 0) (bc2 := 0) (c1 := 7) (c2 := 19) (as := [(4, 0), (0, 2), (0, 4)]) (asC := [(4, 0), (0, 2), (0, 4)]) (LN := [(0, (4, 0)), (1, (0, 2))]) (stN := []) (hsC := [jgh]) (v := (9, 0)) (st2 := []) (jA_115_372 (d := 0)) (by rfl) (by rfl) (by decide +kernel) (by rfl) (by rfl) (by omega) (by omega) (by omega) (by omega) rfl ?_
  refine jT_advK 3 (pcN := 11) (LN := [(0, (4, 0)), (1, (0, 2))]) (stN := [(0, 2), (4, 11)]) (hsN := jpA_3773) (c1 := 0) (s1 := 0) (c2 := 7) (s2 := 19) (by decide +kernel) ?_ (by omega) (by omega)
  refine jT_fR [11, 14, 15, 16, 17, 18, 19, 20, 21, 22] 26 (y := 56) (pcN := 14) (dC := 0) (bc1 := 0) (bc2 := 0) (c1 := 7) (c2 := 19) (as := [(4, 11), (0, 2)]) (asC := [(4, 0), (0, 2)]) (LN := [(0, (4, 0)), (1, (0, 2))]) (stN := []) (hsC := jpA_1446) (v := (4, 8)) (st2 := [(4, 21)]) (jA_56_373 (d := 0)) (by rfl) (by rfl) (by decide +kernel) (by rfl) (by rfl) (by omega) (by omega) (by omega) (by omega) rfl ?_
  refine jT_advK 3 (pcN := 17) (LN := [(2, (4, 21)), (0, (4, 0)), (1, (0, 2))]) (stN := [(0, 0), (4, 21)]) (hsN := jpA_3773) (c1 := 0) (s1 := 0) (c2 := 7) (s2 := 19) (by decide +kernel) ?_ (by omega) (by omega)
  refine jT_fR [21, 23, 24] 26 (y := 30) (pcN := 20) (dC := 0) (bc1 := 0) (bc2 := 0) (c1 := 7) (c2 := 19) (as := [(4, 21), (0, 0)]) (asC := [(4, 0), (0, 0)]) (LN := [(2, (4, 21)), (0, (4, 0)), (1, (0, 2))]) (stN := []) (hsC := [(7, [(4, 1), (4, (-1)), (4, (-1))], []), (114, [], [2]), jgh]) (v := (4, 2)) (st2 := [(4, 24)]) (jA_30_538 (d := 0)) (by rfl) (by rfl) (by decide +kernel) (by rfl) (by rfl) (by omega) (by omega) (by omega) (by omega) rfl ?_
  refine jT_fR [24, 25] 26 (y := 18) (pcN := 23) (dC := 1) (bc1 := 0) (bc2 := 0) (c1 := 7) (c2 := 19) (as := [(4, 24)]) (asC := [(4, 0)]) (LN := [(2, (4, 21)), (0, (4, 0)), (1, (0, 2))]) (stN := []) (hsC := [(4, [(4, 1), (1, 1)], []), (101, [], [0, 0, 0, 0, 0, 0])]) (v := (0, 1)) (st2 := [(0, 1)]) (jA_18_1100 (d := 0)) (by rfl) (by rfl) (by decide +kernel) (by rfl) (by rfl) (by omega) (by omega) (by omega) (by omega) rfl ?_
  refine jT_advK 4 (pcN := 33) (LN := [(2, (4, 21)), (0, (4, 0)), (1, (0, 2))]) (stN := [(4, 1), (4, 21)]) (hsN := jpA_3773) (c1 := 0) (s1 := 0) (c2 := 7) (s2 := 19) (by decide +kernel) ?_ (by omega) (by omega)
  refine jT_fB [21, 1, 23, 12, 13, 24, 25] 26 (y := 36) (pcN := 36) (dC := 5) (bc1 := 7) (bc2 := 19) (c1 := 0) (c2 := 0) (as := [(4, 21), (4, 1)]) (asC := [(4, 0), (4, 1)]) (LN := [(2, (4, 21)), (0, (4, 0)), (1, (0, 2))]) (stN := []) (hsC := jpA_3741) (hsD := jpA_3740) (v := (4, 13)) (st2 := [(4, 32)]) (hs2 := jpA_3774) (jA_36_1012 (d := 0)) (by rfl) (by rfl) (by decide +kernel) (by rfl) (by rfl) (by omega) (by omega) (by omega) (by omega) rfl (by decide +kernel) ?_
  refine jT_advK 13 (pcN := 56) (LN := [(5, (0, 0)), (4, (0, 0)), (3, (4, 32)), (2, (4, 21)), (0, (4, 0)), (1, (0, 2))]) (stN := [(0, 0), (4, 32), (4, 0), (0, 0)]) (hsN := jpA_3774) (c1 := 0) (s1 := 0) (c2 := 0) (s2 := 0) (by decide +kernel) ?_ (by omega) (by omega)
  refine jT_fR [0, 32] 33 (y := 154) (pcN := 59) (dC := 0) (bc1 := 0) (bc2 := 0) (c1 := 0) (c2 := 0) (as := [(4, 0), (4, 32), (0, 0)]) (asC := [(4, 0), (4, 1), (0, 0)]) (LN := [(5, (0, 0)), (4, (0, 0)), (3, (4, 32)), (2, (4, 21)), (0, (4, 0)), (1, (0, 2))]) (stN := [(0, 0)]) (hsC := [jgh, (100, [], [0])]) (v := (0, 1)) (st2 := [(0, 1), (0, 0)]) (jA_154_1101 (d := 0)) (by rfl) (by rfl) (by decide +kernel) (by rfl) (by rfl) (by omega) (by omega) (by omega) (by omega) rfl ?_
  refine jT_advK 12 (pcN := 78) (LN := [(5, (0, 1)), (4, (0, 1)), (3, (4, 32)), (2, (4, 21)), (0, (4, 0)), (1, (0, 2))]) (stN := [(0, 1)]) (hsN := jpA_3774) (c1 := 0) (s1 := 0) (c2 := 0) (s2 := 0) (by decide +kernel) ?_ (by omega) (by omega)
  exact jT_ret rfl (by decide) (by show 26 ≤ 33; decide) (by omega) (by omega) ⟨rfl, rfl, rfl⟩
theorem jA_357_1111 {xs : List Int} {d : Nat} : jT xs (d + 7) 357 27 0 [(0, (4, 0)), (1, (0, 2)), (2, (4, 1))] [] jpA_3775 7 19 (fun k v hsN => k = 0 ∧ v = (0, 0) ∧ hsN = jpA_3777) := by
  refine jT_advK 4 (pcN := 4) (LN := [(0, (4, 0)), (1, (0, 2)), (2, (4, 1))]) (stN := [(0, 2), (4, 0), (0, 0), (4, 1)]) (hsN := jpA_3775) (c1 := 0) (s1 := 0) (c2 := 7) (s2 := 19) (by decide +kernel) ?_ (by omega) (by omega)
  refine jT_fB [0, 2, 3, 4, 5, 6, 7, 8, 9, 10, 11, 12, 13, 14, 15, 16, 17, 18, 19, 20, 21, 22, 23, 24, 25, 26] 27 (y := 153) (pcN := 7) (dC := 6) (bc1 := 7) (bc2 := 19) (c1 := 0) (c2 := 0) (as := [(4, 0), (0, 2)]) (asC := [(4, 0), (0, 2)]) (LN := [(0, (4, 0)), (1, (0, 2)), (2, (4, 1))]) (stN := [(0, 0), (4, 1)]) (hsC := jpA_3773) (hsD := jpA_3774) (v := (0, 1)) (st2 := [(0, 1), (0, 0), (4, 1)]) (hs2 := jpA_3776) (jA_153_1110 (d := 0)) (by rfl) (by rfl) (by decide +kernel) (by rfl) (by rfl) (by omega) (by omega) (by omega) (by omega) rfl (by decide +kernel) ?_
  refine jT_advK 4 (pcN := 16) (LN := [(0, (4, 0)), (1, (0, 2)), (2, (4, 1))]) (stN := [(0, 0)]) (hsN := jpA_3777) (c1 := 0) (s1 := 0) (c2 := 0) (s2 := 0) (by decide +kernel) ?_ (by omega) (by omega)
  exact jT_ret rfl (by decide) (by show 27 ≤ 34; decide) (by omega) (by omega) ⟨rfl, rfl, rfl⟩
theorem jA_286_1112 {xs : List Int} {d : Nat} : jT xs (d + 6) 286 16 0 [(0, (4, 0)), (1, (0, 2)), (2, (0, 0))] [] jpA_3766 0 0 (fun k v hsN => k = 0 ∧ v = (0, 1) ∧ hsN = jpA_3766 ++ []) := by
  refine jT_advK 2 (pcN := 2) (LN := [(0, (4, 0)), (1, (0, 2)), (2, (0, 0))]) (stN := [(0, 2), (4, 0)]) (hsN := jpA_3766) (c1 := 0) (s1 := 0) (c2 := 0) (s2 := 0) (by decide +kernel) ?_ (by omega) (by omega)
  refine jT_fR [0, 1, 2, 3, 4, 5, 6, 7, 8, 9, 10, 11, 12, 13, 14, 15] 16 (y := 245) (pcN := 5) (dC := 0) (bc1 := 0) (bc2 := 0) (c1 := 0) (c2 := 0) (as := [(4, 0), (0, 2)]) (asC := [(4, 0), (0, 2)]) (LN := [(0, (4, 0)), (1, (0, 2)), (2, (0, 0))]) (stN := []) (hsC := jpA_1545) (v := (0, 1)) (st2 := [(0, 1)]) (jA_245_384 (d := 0)) (by rfl) (by rfl) (by decide +kernel) (by rfl) (by rfl) (by omega) (by omega) (by omega) (by omega) rfl ?_
  refine jT_advK 9 (pcN := 19) (LN := [(4, (0, 0)), (3, (0, 1)), (0, (4, 0)), (1, (0, 2)), (2, (0, 0))]) (stN := [(0, 0), (0, 2), (4, 0)]) (hsN := jpA_3766) (c1 := 0) (s1 := 0) (c2 := 0) (s2 := 0) (by decide +kernel) ?_ (by omega) (by omega)
  refine jT_fR [0, 1, 2, 3, 4, 5, 6, 7, 8, 9, 10, 11, 12, 13, 14, 15] 16 (y := 284) (pcN := 22) (dC := 5) (bc1 := 0) (bc2 := 0) (c1 := 0) (c2 := 0) (as := [(4, 0), (0, 2), (0, 0)]) (asC := [(4, 0), (0, 2), (0, 0)]) (LN := [(4, (0, 0)), (3, (0, 1)), (0, (4, 0)), (1, (0, 2)), (2, (0, 0))]) (stN := []) (hsC := jpA_3766) (v := (0, 0)) (st2 := [(0, 0)]) (jA_284_1075 (d := 0)) (by rfl) (by rfl) (by decide +kernel) (by rfl) (by rfl) (by omega) (by omega) (by omega) (by omega) rfl ?_
  refine jT_advK 7 (pcN := 30) (LN := [(4, (0, 0)), (3, (0, 1)), (0, (4, 0)), (1, (0, 2)), (2, (0, 0))]) (stN := [(0, 0), (0, 2), (4, 0), (0, 0)]) (hsN := jpA_3766) (c1 := 0) (s1 := 0) (c2 := 0) (s2 := 0) (by decide +kernel) ?_ (by omega) (by omega)
  refine jT_fR [0, 1, 2, 3, 4, 5, 6, 7, 8, 9, 10, 11, 12, 13, 14, 15] 16 (y := 284) (pcN := 33) (dC := 5) (bc1 := 0) (bc2 := 0) (c1 := 0) (c2 := 0) (as := [(4, 0), (0, 2), (0, 0)]) (asC := [(4, 0), (0, 2), (0, 0)]) (LN := [(4, (0, 0)), (3, (0, 1)), (0, (4, 0)), (1, (0, 2)), (2, (0, 0))]) (stN := [(0, 0)]) (hsC := jpA_3766) (v := (0, 0)) (st2 := [(0, 0), (0, 0)]) (jA_284_1075 (d := 0)) (by rfl) (by rfl) (by decide +kernel) (by rfl) (by rfl) (by omega) (by omega) (by omega) (by omega) rfl ?_
  refine jT_advK 7 (pcN := 45) (LN := [(4, (0, 1)), (3, (0, 1)), (0, (4, 0)), (1, (0, 2)), (2, (0, 0))]) (stN := [(0, 1)]) (hsN := jpA_3766) (c1 := 0) (s1 := 0) (c2 := 0) (s2 := 0) (by decide +kernel) ?_ (by omega) (by omega)
  exact jT_ret rfl (by decide) (by show 16 ≤ 16; decide) (by omega) (by omega) ⟨rfl, rfl, rfl⟩
theorem jA_285_1113 {xs : List Int} {d : Nat} : jT xs (d + 7) 285 16 0 [(0, (4, 0)), (1, (0, 2))] [] jpA_1840 0 0 (fun k v hsN => k = 0 ∧ v = (0, 1) ∧ hsN = jpA_3766) := by
  refine jT_advK 2 (pcN := 2) (LN := [(0, (4, 0)), (1, (0, 2))]) (stN := [(0, 2), (4, 0)]) (hsN := jpA_1840) (c1 := 0) (s1 := 0) (c2 := 0) (s2 := 0) (by decide +kernel) ?_ (by omega) (by omega)
  refine jT_fR [] 16 (y := 238) (pcN := 5) (dC := 1) (bc1 := 0) (bc2 := 0) (c1 := 0) (c2 := 0) (as := [(0, 2)]) (asC := [(0, 2)]) (LN := [(0, (4, 0)), (1, (0, 2))]) (stN := [(4, 0)]) (hsC := []) (v := (0, 1)) (st2 := [(0, 1), (4, 0)]) (jA_238_378 (d := 0)) (by rfl) (by rfl) (by decide +kernel) (by rfl) (by rfl) (by omega) (by omega) (by omega) (by omega) rfl ?_
  refine jT_fR [0, 1, 2, 3, 4, 5, 6, 7, 8, 9, 10, 11, 12, 13, 14, 15] 16 (y := 190) (pcN := 8) (dC := 1) (bc1 := 0) (bc2 := 0) (c1 := 0) (c2 := 0) (as := [(4, 0), (0, 1)]) (asC := [(4, 0), (0, 1)]) (LN := [(0, (4, 0)), (1, (0, 2))]) (stN := []) (hsC := jpA_22) (v := (0, 0)) (st2 := [(0, 0)]) (jA_190_39 (d := 0)) (by rfl) (by rfl) (by decide +kernel) (by rfl) (by rfl) (by omega) (by omega) (by omega) (by omega) rfl ?_
  refine jT_advK 2 (pcN := 14) (LN := [(0, (4, 0)), (1, (0, 2))]) (stN := [(4, 0)]) (hsN := jpA_1840) (c1 := 0) (s1 := 0) (c2 := 0) (s2 := 0) (by decide +kernel) ?_ (by omega) (by omega)
  refine jT_fR [0, 1, 2, 3, 4, 5, 6, 7, 8, 9, 10, 11, 12, 13, 14, 15] 16 (y := 193) (pcN := 17) (dC := 0) (bc1 := 0) (bc2 := 0) (c1 := 0) (c2 := 0) (as := [(4, 0)]) (asC := [(4, 0)]) (LN := [(0, (4, 0)), (1, (0, 2))]) (stN := []) (hsC := jpA_147) (v := (9, 0)) (st2 := []) (jA_193_649 (d := 0)) (by rfl) (by rfl) (by decide +kernel) (by rfl) (by rfl) (by omega) (by omega) (by omega) (by omega) rfl ?_
  refine jT_advK 2 (pcN := 19) (LN := [(0, (4, 0)), (1, (0, 2))]) (stN := [(0, 2), (4, 0)]) (hsN := jpA_1840) (c1 := 0) (s1 := 0) (c2 := 0) (s2 := 0) (by decide +kernel) ?_ (by omega) (by omega)
  refine jT_fR [0, 1, 2, 3, 4, 5, 6, 7, 8, 9, 10, 11, 12, 13, 14, 15] 16 (y := 244) (pcN := 22) (dC := 1) (bc1 := 0) (bc2 := 0) (c1 := 0) (c2 := 0) (as := [(4, 0), (0, 2)]) (asC := [(4, 0), (0, 2)]) (LN := [(0, (4, 0)), (1, (0, 2))]) (stN := []) (hsC := jpA_130) (v := (0, 1)) (st2 := [(0, 1)]) (jA_244_382 (d := 0)) (by rfl) (by rfl) (by decide +kernel) (by rfl) (by rfl) (by omega) (by omega) (by omega) (by omega) rfl ?_
  refine jT_advK 3 (pcN := 29) (LN := [(0, (4, 0)), (1, (0, 2))]) (stN := [(0, 2), (4, 0)]) (hsN := jpA_1840) (c1 := 0) (s1 := 0) (c2 := 0) (s2 := 0) (by decide +kernel) ?_ (by omega) (by omega)
  refine jT_fB [0, 1, 2, 3, 4, 5, 6, 7, 8, 9, 10, 11, 12, 13, 14, 15] 16 (y := 282) (pcN := 32) (dC := 5) (bc1 := 0) (bc2 := 0) (c1 := 0) (c2 := 0) (as := [(4, 0), (0, 2)]) (asC := [(4, 0), (0, 2)]) (LN := [(0, (4, 0)), (1, (0, 2))]) (stN := []) (hsC := jpA_1840) (hsD := jpA_3766) (v := (9, 0)) (st2 := []) (hs2 := jpA_3766) (jA_282_1027 (d := 0)) (by rfl) (by rfl) (by decide +kernel) (by rfl) (by rfl) (by omega) (by omega) (by omega) (by omega) rfl (by decide +kernel) ?_
  refine jT_advK 7 (pcN := 39) (LN := [(3, (0, 0)), (2, (0, 0)), (0, (4, 0)), (1, (0, 2))]) (stN := [(0, 2), (4, 0), (0, 0)]) (hsN := jpA_3766) (c1 := 0) (s1 := 0) (c2 := 0) (s2 := 0) (by decide +kernel) ?_ (by omega) (by omega)
  refine jT_fR [0, 1, 2, 3, 4, 5, 6, 7, 8, 9, 10, 11, 12, 13, 14, 15] 16 (y := 245) (pcN := 42) (dC := 0) (bc1 := 0) (bc2 := 0) (c1 := 0) (c2 := 0) (as := [(4, 0), (0, 2)]) (asC := [(4, 0), (0, 2)]) (LN := [(3, (0, 0)), (2, (0, 0)), (0, (4, 0)), (1, (0, 2))]) (stN := [(0, 0)]) (hsC := jpA_1545) (v := (0, 1)) (st2 := [(0, 1), (0, 0)]) (jA_245_384 (d := 0)) (by rfl) (by rfl) (by decide +kernel) (by rfl) (by rfl) (by omega) (by omega) (by omega) (by omega) rfl ?_
  refine jT_advK 5 (pcN := 49) (LN := [(3, (0, 0)), (2, (0, 0)), (0, (4, 0)), (1, (0, 2))]) (stN := [(0, 0), (0, 2), (4, 0), (0, 0)]) (hsN := jpA_3766) (c1 := 0) (s1 := 0) (c2 := 0) (s2 := 0) (by decide +kernel) ?_ (by omega) (by omega)
  refine jT_fR [0, 1, 2, 3, 4, 5, 6, 7, 8, 9, 10, 11, 12, 13, 14, 15] 16 (y := 286) (pcN := 52) (dC := 6) (bc1 := 0) (bc2 := 0) (c1 := 0) (c2 := 0) (as := [(4, 0), (0, 2), (0, 0)]) (asC := [(4, 0), (0, 2), (0, 0)]) (LN := [(3, (0, 0)), (2, (0, 0)), (0, (4, 0)), (1, (0, 2))]) (stN := [(0, 0)]) (hsC := jpA_3766) (v := (0, 1)) (st2 := [(0, 1), (0, 0)]) (jA_286_1112 (d := 0)) (by rfl) (by rfl) (by decide +kernel) (by rfl) (by rfl) (by omega) (by omega) (by omega) (by omega) rfl ?_
  refine jT_advK 10 (pcN := 39) (LN := [(3, (0, 1)), (2, (0, 1)), (0, (4, 0)), (1, (0, 2))]) (stN := [(0, 2), (4, 0), (0, 1)]) (hsN := jpA_3766) (c1 := 0) (s1 := 0) (c2 := 0) (s2 := 0) (by decide +kernel) ?_ (by omega) (by omega)
  refine jT_fR [0, 1, 2, 3, 4, 5, 6, 7, 8, 9, 10, 11, 12, 13, 14, 15] 16 (y := 245) (pcN := 42) (dC := 0) (bc1 := 0) (bc2 := 0) (c1 := 0) (c2 := 0) (as := [(4, 0), (0, 2)]) (asC := [(4, 0), (0, 2)]) (LN := [(3, (0, 1)), (2, (0, 1)), (0, (4, 0)), (1, (0, 2))]) (stN := [(0, 1)]) (hsC := jpA_1545) (v := (0, 1)) (st2 := [(0, 1), (0, 1)]) (jA_245_384 (d := 0)) (by rfl) (by rfl) (by decide +kernel) (by rfl) (by rfl) (by omega) (by omega) (by omega) (by omega) rfl ?_
  refine jT_advK 2 (pcN := 69) (LN := [(3, (0, 1)), (2, (0, 1)), (0, (4, 0)), (1, (0, 2))]) (stN := [(0, 1)]) (hsN := jpA_3766) (c1 := 0) (s1 := 0) (c2 := 0) (s2 := 0) (by decide +kernel) ?_ (by omega) (by omega)
  exact jT_ret rfl (by decide) (by show 16 ≤ 16; decide) (by omega) (by omega) ⟨rfl, rfl, rfl⟩
theorem jA_153_1114 {xs : List Int} {d : Nat} : jT xs (d + 6) 153 26 0 [(0, (4, 0)), (1, (0, 3))] [] jpA_3778 7 19 (fun k v hsN => k = 0 ∧ v = (0, 1) ∧ hsN = jpA_3779) := by
  refine jT_advK 3 (pcN := 3) (LN := [(0, (4, 0)), (1, (0, 3))]) (stN := [(0, 4), (0, 3), (4, 0)]) (hsN := jpA_3778) (c1 := 0) (s1 := 0) (c2 := 7) (s2 := 19) (by decide +kernel) ?_ (by omega) (by omega)
  refine jT_fR [0] 26 (y := 115) (pcN := 6) (dC := 0) (bc1 := 0) (bc2 := 0) (c1 := 7) (c2 := 19) (as := [(4, 0), (0, 3), (0, 4)]) (asC := [(4, 0), (0, 3), (0, 4)]) (LN := [(0, (4, 0)), (1, (0, 3))]) (stN := []) (hsC := [jgh]) (v := (9, 0)) (st2 := []) (jA_115_387 (d := 0)) (by rfl) (by rfl) (by decide +kernel) (by rfl) (by rfl) (by omega) (by omega) (by omega) (by omega) rfl ?_
  refine jT_advK 3 (pcN := 11) (LN := [(0, (4, 0)), (1, (0, 3))]) (stN := [(0, 3), (4, 11)]) (hsN := jpA_3778) (c1 := 0) (s1 := 0) (c2 := 7) (s2 := 19) (by decide +kernel) ?_ (by omega) (by omega)
  refine jT_fR [11, 14, 15, 16, 17, 18, 19, 20, 21, 22] 26 (y := 56) (pcN := 14) (dC := 0) (bc1 := 0) (bc2 := 0) (c1 := 7) (c2 := 19) (as := [(4, 11), (0, 3)]) (asC := [(4, 0), (0, 3)]) (LN := [(0, (4, 0)), (1, (0, 3))]) (stN := []) (hsC := jpA_1446) (v := (4, 9)) (st2 := [(4, 22)]) (jA_56_388 (d := 0)) (by rfl) (by rfl) (by decide +kernel) (by rfl) (by rfl) (by omega) (by omega) (by omega) (by omega) rfl ?_
  refine jT_advK 3 (pcN := 17) (LN := [(2, (4, 22)), (0, (4, 0)), (1, (0, 3))]) (stN := [(0, 0), (4, 22)]) (hsN := jpA_3778) (c1 := 0) (s1 := 0) (c2 := 7) (s2 := 19) (by decide +kernel) ?_ (by omega) (by omega)
  refine jT_fR [22, 23, 24] 26 (y := 30) (pcN := 20) (dC := 0) (bc1 := 0) (bc2 := 0) (c1 := 7) (c2 := 19) (as := [(4, 22), (0, 0)]) (asC := [(4, 0), (0, 0)]) (LN := [(2, (4, 22)), (0, (4, 0)), (1, (0, 3))]) (stN := []) (hsC := [(7, [(4, 1), (4, (-1)), (4, (-1))], []), (114, [], [2]), jgh]) (v := (4, 2)) (st2 := [(4, 24)]) (jA_30_538 (d := 0)) (by rfl) (by rfl) (by decide +kernel) (by rfl) (by rfl) (by omega) (by omega) (by omega) (by omega) rfl ?_
  refine jT_fR [24, 25] 26 (y := 18) (pcN := 23) (dC := 1) (bc1 := 0) (bc2 := 0) (c1 := 7) (c2 := 19) (as := [(4, 24)]) (asC := [(4, 0)]) (LN := [(2, (4, 22)), (0, (4, 0)), (1, (0, 3))]) (stN := []) (hsC := [(4, [(4, 1), (1, 1)], []), (101, [], [0, 0, 0, 0, 0, 0])]) (v := (0, 1)) (st2 := [(0, 1)]) (jA_18_1100 (d := 0)) (by rfl) (by rfl) (by decide +kernel) (by rfl) (by rfl) (by omega) (by omega) (by omega) (by omega) rfl ?_
  refine jT_advK 4 (pcN := 33) (LN := [(2, (4, 22)), (0, (4, 0)), (1, (0, 3))]) (stN := [(4, 1), (4, 22)]) (hsN := jpA_3778) (c1 := 0) (s1 := 0) (c2 := 7) (s2 := 19) (by decide +kernel) ?_ (by omega) (by omega)
  refine jT_fB [22, 1, 23, 12, 13, 24, 25] 26 (y := 36) (pcN := 36) (dC := 5) (bc1 := 7) (bc2 := 19) (c1 := 0) (c2 := 0) (as := [(4, 22), (4, 1)]) (asC := [(4, 0), (4, 1)]) (LN := [(2, (4, 22)), (0, (4, 0)), (1, (0, 3))]) (stN := []) (hsC := jpA_3741) (hsD := jpA_3740) (v := (4, 13)) (st2 := [(4, 32)]) (hs2 := jpA_3779) (jA_36_1012 (d := 0)) (by rfl) (by rfl) (by decide +kernel) (by rfl) (by rfl) (by omega) (by omega) (by omega) (by omega) rfl (by decide +kernel) ?_
  refine jT_advK 13 (pcN := 56) (LN := [(5, (0, 0)), (4, (0, 0)), (3, (4, 32)), (2, (4, 22)), (0, (4, 0)), (1, (0, 3))]) (stN := [(0, 0), (4, 32), (4, 0), (0, 0)]) (hsN := jpA_3779) (c1 := 0) (s1 := 0) (c2 := 0) (s2 := 0) (by decide +kernel) ?_ (by omega) (by omega)
  refine jT_fR [0, 32] 33 (y := 154) (pcN := 59) (dC := 0) (bc1 := 0) (bc2 := 0) (c1 := 0) (c2 := 0) (as := [(4, 0), (4, 32), (0, 0)]) (asC := [(4, 0), (4, 1), (0, 0)]) (LN := [(5, (0, 0)), (4, (0, 0)), (3, (4, 32)), (2, (4, 22)), (0, (4, 0)), (1, (0, 3))]) (stN := [(0, 0)]) (hsC := [jgh, (100, [], [0])]) (v := (0, 1)) (st2 := [(0, 1), (0, 0)]) (jA_154_1101 (d := 0)) (by rfl) (by rfl) (by decide +kernel) (by rfl) (by rfl) (by omega) (by omega) (by omega) (by omega) rfl ?_
  refine jT_advK 12 (pcN := 78) (LN := [(5, (0, 1)), (4, (0, 1)), (3, (4, 32)), (2, (4, 22)), (0, (4, 0)), (1, (0, 3))]) (stN := [(0, 1)]) (hsN := jpA_3779) (c1 := 0) (s1 := 0) (c2 := 0) (s2 := 0) (by decide +kernel) ?_ (by omega) (by omega)
  exact jT_ret rfl (by decide) (by show 26 ≤ 33; decide) (by omega) (by omega) ⟨rfl, rfl, rfl⟩
theorem jA_357_1115 {xs : List Int} {d : Nat} : jT xs (d + 7) 357 27 0 [(0, (4, 0)), (1, (0, 3)), (2, (4, 1))] [] jpA_3780 7 19 (fun k v hsN => k = 0 ∧ v = (0, 0) ∧ hsN = jpA_3782) := by
  refine jT_advK 4 (pcN := 4) (LN := [(0, (4, 0)), (1, (0, 3)), (2, (4, 1))]) (stN := [(0, 3), (4, 0), (0, 0), (4, 1)]) (hsN := jpA_3780) (c1 := 0) (s1 := 0) (c2 := 7) (s2 := 19) (by decide +kernel) ?_ (by omega) (by omega)
  refine jT_fB [0, 2, 3, 4, 5, 6, 7, 8, 9, 10, 11, 12, 13, 14, 15, 16, 17, 18, 19, 20, 21, 22, 23, 24, 25, 26] 27 (y := 153) (pcN := 7) (dC := 6) (bc1 := 7) (bc2 := 19) (c1 := 0) (c2 := 0) (as := [(4, 0), (0, 3)]) (asC := [(4, 0), (0, 3)]) (LN := [(0, (4, 0)), (1, (0, 3)), (2, (4, 1))]) (stN := [(0, 0), (4, 1)]) (hsC := jpA_3778) (hsD := jpA_3779) (v := (0, 1)) (st2 := [(0, 1), (0, 0), (4, 1)]) (hs2 := jpA_3781) (jA_153_1114 (d := 0)) (by rfl) (by rfl) (by decide +kernel) (by rfl) (by rfl) (by omega) (by omega) (by omega) (by omega) rfl (by decide +kernel) ?_
  refine jT_advK 4 (pcN := 16) (LN := [(0, (4, 0)), (1, (0, 3)), (2, (4, 1))]) (stN := [(0, 0)]) (hsN := jpA_3782) (c1 := 0) (s1 := 0) (c2 := 0) (s2 := 0) (by decide +kernel) ?_ (by omega) (by omega)
  exact jT_ret rfl (by decide) (by show 27 ≤ 34; decide) (by omega) (by omega) ⟨rfl, rfl, rfl⟩
theorem jA_286_1116 {xs : List Int} {d : Nat} : jT xs (d + 6) 286 16 0 [(0, (4, 0)), (1, (0, 3)), (2, (0, 0))] [] jpA_3766 0 0 (fun k v hsN => k = 0 ∧ v = (0, 1) ∧ hsN = jpA_3766 ++ []) := by
  refine jT_advK 2 (pcN := 2) (LN := [(0, (4, 0)), (1, (0, 3)), (2, (0, 0))]) (stN := [(0, 3), (4, 0)]) (hsN := jpA_3766) (c1 := 0) (s1 := 0) (c2 := 0) (s2 := 0) (by decide +kernel) ?_ (by omega) (by omega)
  refine jT_fR [0, 1, 2, 3, 4, 5, 6, 7, 8, 9, 10, 11, 12, 13, 14, 15] 16 (y := 245) (pcN := 5) (dC := 0) (bc1 := 0) (bc2 := 0) (c1 := 0) (c2 := 0) (as := [(4, 0), (0, 3)]) (asC := [(4, 0), (0, 3)]) (LN := [(0, (4, 0)), (1, (0, 3)), (2, (0, 0))]) (stN := []) (hsC := jpA_1545) (v := (0, 1)) (st2 := [(0, 1)]) (jA_245_399 (d := 0)) (by rfl) (by rfl) (by decide +kernel) (by rfl) (by rfl) (by omega) (by omega) (by omega) (by omega) rfl ?_
  refine jT_advK 9 (pcN := 19) (LN := [(4, (0, 0)), (3, (0, 1)), (0, (4, 0)), (1, (0, 3)), (2, (0, 0))]) (stN := [(0, 0), (0, 3), (4, 0)]) (hsN := jpA_3766) (c1 := 0) (s1 := 0) (c2 := 0) (s2 := 0) (by decide +kernel) ?_ (by omega) (by omega)
  refine jT_fR [0, 1, 2, 3, 4, 5, 6, 7, 8, 9, 10, 11, 12, 13, 14, 15] 16 (y := 284) (pcN := 22) (dC := 5) (bc1 := 0) (bc2 := 0) (c1 := 0) (c2 := 0) (as := [(4, 0), (0, 3), (0, 0)]) (asC := [(4, 0), (0, 3), (0, 0)]) (LN := [(4, (0, 0)), (3, (0, 1)), (0, (4, 0)), (1, (0, 3)), (2, (0, 0))]) (stN := []) (hsC := jpA_3766) (v := (0, 0)) (st2 := [(0, 0)]) (jA_284_1088 (d := 0)) (by rfl) (by rfl) (by decide +kernel) (by rfl) (by rfl) (by omega) (by omega) (by omega) (by omega) rfl ?_
  refine jT_advK 7 (pcN := 30) (LN := [(4, (0, 0)), (3, (0, 1)), (0, (4, 0)), (1, (0, 3)), (2, (0, 0))]) (stN := [(0, 0), (0, 3), (4, 0), (0, 0)]) (hsN := jpA_3766) (c1 := 0) (s1 := 0) (c2 := 0) (s2 := 0) (by decide +kernel) ?_ (by omega) (by omega)
  refine jT_fR [0, 1, 2, 3, 4, 5, 6, 7, 8, 9, 10, 11, 12, 13, 14, 15] 16 (y := 284) (pcN := 33) (dC := 5) (bc1 := 0) (bc2 := 0) (c1 := 0) (c2 := 0) (as := [(4, 0), (0, 3), (0, 0)]) (asC := [(4, 0), (0, 3), (0, 0)]) (LN := [(4, (0, 0)), (3, (0, 1)), (0, (4, 0)), (1, (0, 3)), (2, (0, 0))]) (stN := [(0, 0)]) (hsC := jpA_3766) (v := (0, 0)) (st2 := [(0, 0), (0, 0)]) (jA_284_1088 (d := 0)) (by rfl) (by rfl) (by decide +kernel) (by rfl) (by rfl) (by omega) (by omega) (by omega) (by omega) rfl ?_
  refine jT_advK 7 (pcN := 45) (LN := [(4, (0, 1)), (3, (0, 1)), (0, (4, 0)), (1, (0, 3)), (2, (0, 0))]) (stN := [(0, 1)]) (hsN := jpA_3766) (c1 := 0) (s1 := 0) (c2 := 0) (s2 := 0) (by decide +kernel) ?_ (by omega) (by omega)
  exact jT_ret rfl (by decide) (by show 16 ≤ 16; decide) (by omega) (by omega) ⟨rfl, rfl, rfl⟩
theorem jA_285_1117 {xs : List Int} {d : Nat} : jT xs (d + 7) 285 16 0 [(0, (4, 0)), (1, (0, 3))] [] jpA_1840 0 0 (fun k v hsN => k = 0 ∧ v = (0, 1) ∧ hsN = jpA_3766) := by
  refine jT_advK 2 (pcN := 2) (LN := [(0, (4, 0)), (1, (0, 3))]) (stN := [(0, 3), (4, 0)]) (hsN := jpA_1840) (c1 := 0) (s1 := 0) (c2 := 0) (s2 := 0) (by decide +kernel) ?_ (by omega) (by omega)
  refine jT_fR [] 16 (y := 238) (pcN := 5) (dC := 1) (bc1 := 0) (bc2 := 0) (c1 := 0) (c2 := 0) (as := [(0, 3)]) (asC := [(0, 3)]) (LN := [(0, (4, 0)), (1, (0, 3))]) (stN := [(4, 0)]) (hsC := []) (v := (0, 1)) (st2 := [(0, 1), (4, 0)]) (jA_238_393 (d := 0)) (by rfl) (by rfl) (by decide +kernel) (by rfl) (by rfl) (by omega) (by omega) (by omega) (by omega) rfl ?_
  refine jT_fR [0, 1, 2, 3, 4, 5, 6, 7, 8, 9, 10, 11, 12, 13, 14, 15] 16 (y := 190) (pcN := 8) (dC := 1) (bc1 := 0) (bc2 := 0) (c1 := 0) (c2 := 0) (as := [(4, 0), (0, 1)]) (asC := [(4, 0), (0, 1)]) (LN := [(0, (4, 0)), (1, (0, 3))]) (stN := []) (hsC := jpA_22) (v := (0, 0)) (st2 := [(0, 0)]) (jA_190_39 (d := 0)) (by rfl) (by rfl) (by decide +kernel) (by rfl) (by rfl) (by omega) (by omega) (by omega) (by omega) rfl ?_
  refine jT_advK 2 (pcN := 14) (LN := [(0, (4, 0)), (1, (0, 3))]) (stN := [(4, 0)]) (hsN := jpA_1840) (c1 := 0) (s1 := 0) (c2 := 0) (s2 := 0) (by decide +kernel) ?_ (by omega) (by omega)
  refine jT_fR [0, 1, 2, 3, 4, 5, 6, 7, 8, 9, 10, 11, 12, 13, 14, 15] 16 (y := 193) (pcN := 17) (dC := 0) (bc1 := 0) (bc2 := 0) (c1 := 0) (c2 := 0) (as := [(4, 0)]) (asC := [(4, 0)]) (LN := [(0, (4, 0)), (1, (0, 3))]) (stN := []) (hsC := jpA_147) (v := (9, 0)) (st2 := []) (jA_193_649 (d := 0)) (by rfl) (by rfl) (by decide +kernel) (by rfl) (by rfl) (by omega) (by omega) (by omega) (by omega) rfl ?_
  refine jT_advK 2 (pcN := 19) (LN := [(0, (4, 0)), (1, (0, 3))]) (stN := [(0, 3), (4, 0)]) (hsN := jpA_1840) (c1 := 0) (s1 := 0) (c2 := 0) (s2 := 0) (by decide +kernel) ?_ (by omega) (by omega)
  refine jT_fR [0, 1, 2, 3, 4, 5, 6, 7, 8, 9, 10, 11, 12, 13, 14, 15] 16 (y := 244) (pcN := 22) (dC := 1) (bc1 := 0) (bc2 := 0) (c1 := 0) (c2 := 0) (as := [(4, 0), (0, 3)]) (asC := [(4, 0), (0, 3)]) (LN := [(0, (4, 0)), (1, (0, 3))]) (stN := []) (hsC := jpA_130) (v := (0, 1)) (st2 := [(0, 1)]) (jA_244_397 (d := 0)) (by rfl) (by rfl) (by decide +kernel) (by rfl) (by rfl) (by omega) (by omega) (by omega) (by omega) rfl ?_
  refine jT_advK 3 (pcN := 29) (LN := [(0, (4, 0)), (1, (0, 3))]) (stN := [(0, 3), (4, 0)]) (hsN := jpA_1840) (c1 := 0) (s1 := 0) (c2 := 0) (s2 := 0) (by decide +kernel) ?_ (by omega) (by omega)
  refine jT_fB [0, 1, 2, 3, 4, 5, 6, 7, 8, 9, 10, 11, 12, 13, 14, 15] 16 (y := 282) (pcN := 32) (dC := 5) (bc1 := 0) (bc2 := 0) (c1 := 0) (c2 := 0) (as := [(4, 0), (0, 3)]) (asC := [(4, 0), (0, 3)]) (LN := [(0, (4, 0)), (1, (0, 3))]) (stN := []) (hsC := jpA_1840) (hsD := jpA_3766) (v := (9, 0)) (st2 := []) (hs2 := jpA_3766) (jA_282_1031 (d := 0)) (by rfl) (by rfl) (by decide +kernel) (by rfl) (by rfl) (by omega) (by omega) (by omega) (by omega) rfl (by decide +kernel) ?_
  refine jT_advK 7 (pcN := 39) (LN := [(3, (0, 0)), (2, (0, 0)), (0, (4, 0)), (1, (0, 3))]) (stN := [(0, 3), (4, 0), (0, 0)]) (hsN := jpA_3766) (c1 := 0) (s1 := 0) (c2 := 0) (s2 := 0) (by decide +kernel) ?_ (by omega) (by omega)
  refine jT_fR [0, 1, 2, 3, 4, 5, 6, 7, 8, 9, 10, 11, 12, 13, 14, 15] 16 (y := 245) (pcN := 42) (dC := 0) (bc1 := 0) (bc2 := 0) (c1 := 0) (c2 := 0) (as := [(4, 0), (0, 3)]) (asC := [(4, 0), (0, 3)]) (LN := [(3, (0, 0)), (2, (0, 0)), (0, (4, 0)), (1, (0, 3))]) (stN := [(0, 0)]) (hsC := jpA_1545) (v := (0, 1)) (st2 := [(0, 1), (0, 0)]) (jA_245_399 (d := 0)) (by rfl) (by rfl) (by decide +kernel) (by rfl) (by rfl) (by omega) (by omega) (by omega) (by omega) rfl ?_
  refine jT_advK 5 (pcN := 49) (LN := [(3, (0, 0)), (2, (0, 0)), (0, (4, 0)), (1, (0, 3))]) (stN := [(0, 0), (0, 3), (4, 0), (0, 0)]) (hsN := jpA_3766) (c1 := 0) (s1 := 0) (c2 := 0) (s2 := 0) (by decide +kernel) ?_ (by omega) (by omega)
  refine jT_fR [0, 1, 2, 3, 4, 5, 6, 7, 8, 9, 10, 11, 12, 13, 14, 15] 16 (y := 286) (pcN := 52) (dC := 6) (bc1 := 0) (bc2 := 0) (c1 := 0) (c2 := 0) (as := [(4, 0), (0, 3), (0, 0)]) (asC := [(4, 0), (0, 3), (0, 0)]) (LN := [(3, (0, 0)), (2, (0, 0)), (0, (4, 0)), (1, (0, 3))]) (stN := [(0, 0)]) (hsC := jpA_3766) (v := (0, 1)) (st2 := [(0, 1), (0, 0)]) (jA_286_1116 (d := 0)) (by rfl) (by rfl) (by decide +kernel) (by rfl) (by rfl) (by omega) (by omega) (by omega) (by omega) rfl ?_
  refine jT_advK 10 (pcN := 39) (LN := [(3, (0, 1)), (2, (0, 1)), (0, (4, 0)), (1, (0, 3))]) (stN := [(0, 3), (4, 0), (0, 1)]) (hsN := jpA_3766) (c1 := 0) (s1 := 0) (c2 := 0) (s2 := 0) (by decide +kernel) ?_ (by omega) (by omega)
  refine jT_fR [0, 1, 2, 3, 4, 5, 6, 7, 8, 9, 10, 11, 12, 13, 14, 15] 16 (y := 245) (pcN := 42) (dC := 0) (bc1 := 0) (bc2 := 0) (c1 := 0) (c2 := 0) (as := [(4, 0), (0, 3)]) (asC := [(4, 0), (0, 3)]) (LN := [(3, (0, 1)), (2, (0, 1)), (0, (4, 0)), (1, (0, 3))]) (stN := [(0, 1)]) (hsC := jpA_1545) (v := (0, 1)) (st2 := [(0, 1), (0, 1)]) (jA_245_399 (d := 0)) (by rfl) (by rfl) (by decide +kernel) (by rfl) (by rfl) (by omega) (by omega) (by omega) (by omega) rfl ?_
  refine jT_advK 2 (pcN := 69) (LN := [(3, (0, 1)), (2, (0, 1)), (0, (4, 0)), (1, (0, 3))]) (stN := [(0, 1)]) (hsN := jpA_3766) (c1 := 0) (s1 := 0) (c2 := 0) (s2 := 0) (by decide +kernel) ?_ (by omega) (by omega)
  exact jT_ret rfl (by decide) (by show 16 ≤ 16; decide) (by omega) (by omega) ⟨rfl, rfl, rfl⟩
theorem jA_153_1118 {xs : List Int} {d : Nat} {x1 : Int} (h_x1 : 4 ≤ x1 ∧ x1 ≤ 2147483647) : jT xs (d + 1) 153 12 0 [(0, (4, 0)), (1, (0, x1))] [] jpA_6 1 6 (fun k v hsN => k = 1 ∧ v = (0, 0) ∧ hsN = jpA_6 ++ []) := by
  refine jT_xaload_n (v := (4, 0)) (pcN := 1) jI_153_0 rfl rfl rfl ?_
  refine jT_xiload_n (v := (0, x1)) (pcN := 2) jI_153_1 rfl rfl rfl ?_
  refine jT_xiconst (k := 4) (pcN := 3) jI_153_2 rfl ?_
  exact jT_fX [0] 12 (y := 115) (pcN := 6) (dC := 0) (bc1 := 1) (bc2 := 6) (as := [(4, 0), (0, x1), (0, 4)]) (asC := [(4, 0), (0, x1), (0, 4)]) (LN := [(0, (4, 0)), (1, (0, x1))]) (stN := []) (hsC := [jgh]) (e := 0) (jA_115_405 (d := 0) (by omega)) (by rfl) (by rfl) (by decide +kernel) (by rfl) (by rfl) (by omega) (by omega) (by omega) (by omega) ⟨rfl, ⟨rfl, rfl, rfl⟩⟩
theorem jA_357_1119 {xs : List Int} {d : Nat} {x1 : Int} (h_x1 : 4 ≤ x1 ∧ x1 ≤ 2147483647) : jT xs (d + 2) 357 13 0 [(0, (4, 0)), (1, (0, x1)), (2, (4, 1))] [] jpA_15 1 6 (fun k v hsN => k = 0 ∧ v = (0, 1) ∧ hsN = jpA_15 ++ []) := by
  refine jT_xaload_n (v := (4, 1)) (pcN := 1) jI_357_0 rfl rfl rfl ?_
  refine jT_xiconst (k := 0) (pcN := 2) jI_357_1 rfl ?_
  refine jT_xaload_n (v := (4, 0)) (pcN := 3) jI_357_2 rfl rfl rfl ?_
  refine jT_xiload_n (v := (0, x1)) (pcN := 4) jI_357_3 rfl rfl rfl ?_
  exact jT_fX [0, 2, 3, 4, 5, 6, 7, 8, 9, 10, 11, 12] 13 (y := 153) (pcN := 7) (dC := 1) (bc1 := 1) (bc2 := 6) (as := [(4, 0), (0, x1)]) (asC := [(4, 0), (0, x1)]) (LN := [(0, (4, 0)), (1, (0, x1)), (2, (4, 1))]) (stN := [(0, 0), (4, 1)]) (hsC := jpA_6) (e := 0) (jA_153_1118 (d := 0) (by omega)) (by rfl) (by rfl) (by decide +kernel) (by rfl) (by rfl) (by omega) (by omega) (by omega) (by omega) (show _ from ⟨rfl, rfl, rfl⟩)
theorem jA_285_1120 {xs : List Int} {d : Nat} {x1 : Int} (h_x1 : 4 ≤ x1 ∧ x1 ≤ 2147483647) : jT xs (d + 2) 285 16 0 [(0, (4, 0)), (1, (0, x1))] [] jpA_22 0 0 (fun k v hsN => k = 0 ∧ v = (0, 0) ∧ hsN = jpA_20) := by
  refine jT_xaload_n (v := (4, 0)) (pcN := 1) jI_285_0 rfl rfl rfl ?_
  refine jT_xiload_n (v := (0, x1)) (pcN := 2) jI_285_1 rfl rfl rfl ?_
  refine jT_fR [] 16 (y := 238) (pcN := 5) (dC := 1) (bc1 := 0) (bc2 := 0) (c1 := 0) (c2 := 0) (as := [(0, x1)]) (asC := [(0, x1)]) (LN := [(0, (4, 0)), (1, (0, x1))]) (stN := [(4, 0)]) (hsC := []) (v := (0, 0)) (st2 := [(0, 0), (4, 0)]) (jA_238_408 (d := 0) (by omega)) (by rfl) (by rfl) (by decide +kernel) (by rfl) (by rfl) (by omega) (by omega) (by omega) (by omega) rfl ?_
  refine jT_fB [0, 1, 2, 3, 4, 5, 6, 7, 8, 9, 10, 11, 12, 13, 14, 15] 16 (y := 190) (pcN := 8) (dC := 1) (bc1 := 0) (bc2 := 0) (c1 := 0) (c2 := 0) (as := [(4, 0), (0, 0)]) (asC := [(4, 0), (0, 0)]) (LN := [(0, (4, 0)), (1, (0, x1))]) (stN := []) (hsC := jpA_22) (hsD := jpA_20) (v := (0, 1)) (st2 := [(0, 1)]) (hs2 := jpA_20) (jA_190_6 (d := 0)) (by rfl) (by rfl) (by decide +kernel) (by rfl) (by rfl) (by omega) (by omega) (by omega) (by omega) rfl (by decide +kernel) ?_
  refine jT_xifF (t := 13) (pcN := 11) jI_285_8 rfl (by decide +kernel) rfl rfl ?_
  refine jT_xiconst (k := 0) (pcN := 12) jI_285_11 rfl ?_
  exact jT_ret rfl (by decide) (by show 16 ≤ 16; decide) (by omega) (by omega) ⟨rfl, rfl, rfl⟩
theorem jI_379_2542 : jmI (jm 379) 2542 = (.aload_n 1, 1) := by rfl
theorem jI_379_2543 : jmI (jm 379) 2543 = (.aload_n 0, 1) := by rfl
theorem jI_379_2544 : jmI (jm 379) 2544 = (.iload 5, 2) := by rfl
theorem jI_379_2546 : jmI (jm 379) 2546 = (.iconst 1, 1) := by rfl
theorem jI_379_2547 : jmI (jm 379) 2547 = (.iadd, 1) := by rfl
theorem jI_379_2549 : jmI (jm 379) 2549 = (.aload_n 3, 1) := by rfl
theorem jI_379_2553 : jmI (jm 379) 2553 = (.istore 6, 2) := by rfl
theorem jI_379_2555 : jmI (jm 379) 2555 = (.aload_n 2, 1) := by rfl
theorem jI_379_2556 : jmI (jm 379) 2556 = (.aload_n 0, 1) := by rfl
theorem jI_379_2557 : jmI (jm 379) 2557 = (.iload 5, 2) := by rfl
theorem jI_379_2559 : jmI (jm 379) 2559 = (.iconst 1, 1) := by rfl
theorem jI_379_2560 : jmI (jm 379) 2560 = (.iadd, 1) := by rfl
theorem jI_379_2565 : jmI (jm 379) 2565 = (.istore 7, 2) := by rfl
theorem jI_379_2567 : jmI (jm 379) 2567 = (.aload_n 2, 1) := by rfl
theorem jI_379_2571 : jmI (jm 379) 2571 = (.iload 6, 2) := by rfl
theorem jI_379_2573 : jmI (jm 379) 2573 = (.if_icmp .eq 5, 3) := by rfl
theorem jI_379_2578 : jmI (jm 379) 2578 = (.iload 6, 2) := by rfl
theorem jI_379_2580 : jmI (jm 379) 2580 = (.ifCond .ne 15, 3) := by rfl
theorem jI_379_2595 : jmI (jm 379) 2595 = (.goto 1145, 3) := by rfl
set_option maxRecDepth 100000 in
theorem jL_33_0 {d : Nat} {x0 x1 x2 x3 x4 : Int} (h_x0 : (-2147483648) ≤ x0 ∧ x0 ≤ 2147483647) (h_x1 : (-2147483648) ≤ x1 ∧ x1 ≤ (-1)) (h_x2 : (-2147483648) ≤ x2 ∧ x2 ≤ 2147483647) (h_x3 : (-2147483648) ≤ x3 ∧ x3 ≤ 2147483647) (h_x4 : (-2147483648) ≤ x4 ∧ x4 ≤ 2147483647) : jT [x0, x1, x2, x3, x4] (d + 3) 379 30 2542 [(5, (0, 0)), (4, (4, 3)), (3, (4, 2)), (2, (4, 1)), (1, (4, 0)), (0, (6, 0))] [] jpA_267 1 6 (fun k v hsN => k = 0 ∧ v = (0, 1)) := by
  refine jT_xaload_n (v := (4, 0)) (pcN := 2543) jI_379_2542 rfl rfl rfl ?_
  refine jT_xaload_n (v := (6, 0)) (pcN := 2544) jI_379_2543 rfl rfl rfl ?_
  refine jT_xiload (v := (0, 0)) (pcN := 2546) jI_379_2544 rfl rfl rfl ?_
  refine jT_xiconst (k := 1) (pcN := 2547) jI_379_2546 rfl ?_
  refine jT_xiadd (x := 0) (y := 1) (z := 1) (pcN := 2548) jI_379_2547 rfl (by decide) rfl ?_
  refine jT_adv 1 (pcN := 2549) (LN := [(5, (0, 0)), (4, (4, 3)), (3, (4, 2)), (2, (4, 1)), (1, (4, 0)), (0, (6, 0))]) (stN := [(0, x1), (4, 0)]) (hsN := jpA_267) (c1 := 0) (s1 := 0) (c2 := 1) (s2 := 6) (by exact rfl) ?_ (by omega) (by omega)
  refine jT_xaload_n (v := (4, 2)) (pcN := 2550) jI_379_2549 rfl rfl rfl ?_
  refine jT_fR [0, 2, 4, 5, 6, 7, 8, 9, 10, 11, 12, 13, 14] 30 (y := 357) (pcN := 2553) (dC := 2) (bc1 := 1) (bc2 := 6) (c1 := 0) (c2 := 0) (as := [(4, 0), (0, x1), (4, 2)]) (asC := [(4, 0), (0, x1), (4, 1)]) (LN := [(5, (0, 0)), (4, (4, 3)), (3, (4, 2)), (2, (4, 1)), (1, (4, 0)), (0, (6, 0))]) (stN := []) (hsC := jpA_15) (v := (0, 1)) (st2 := [(0, 1)]) (jA_357_1097 (d := 0) (by omega)) (by rfl) (by rfl) (by decide +kernel) (by rfl) (by rfl) (by omega) (by omega) (by omega) (by omega) rfl ?_
  refine jT_xistore (v := (0, 1)) (LN := [(6, (0, 1)), (5, (0, 0)), (4, (4, 3)), (3, (4, 2)), (2, (4, 1)), (1, (4, 0)), (0, (6, 0))]) (pcN := 2555) jI_379_2553 rfl rfl rfl rfl ?_
  refine jT_xaload_n (v := (4, 1)) (pcN := 2556) jI_379_2555 rfl rfl rfl ?_
  refine jT_xaload_n (v := (6, 0)) (pcN := 2557) jI_379_2556 rfl rfl rfl ?_
  refine jT_xiload (v := (0, 0)) (pcN := 2559) jI_379_2557 rfl rfl rfl ?_
  refine jT_xiconst (k := 1) (pcN := 2560) jI_379_2559 rfl ?_
  refine jT_xiadd (x := 0) (y := 1) (z := 1) (pcN := 2561) jI_379_2560 rfl (by decide) rfl ?_
  refine jT_adv 1 (pcN := 2562) (LN := [(6, (0, 1)), (5, (0, 0)), (4, (4, 3)), (3, (4, 2)), (2, (4, 1)), (1, (4, 0)), (0, (6, 0))]) (stN := [(0, x1), (4, 1)]) (hsN := jpA_267) (c1 := 0) (s1 := 0) (c2 := 0) (s2 := 0) (by exact rfl) ?_ (by omega) (by omega)
  refine jT_fB [1, 15, 16, 17, 18, 19, 20, 21, 22, 23, 24, 25, 26, 27, 28, 29] 30 (y := 285) (pcN := 2565) (dC := 2) (bc1 := 0) (bc2 := 0) (c1 := 0) (c2 := 0) (as := [(4, 1), (0, x1)]) (asC := [(4, 0), (0, x1)]) (LN := [(6, (0, 1)), (5, (0, 0)), (4, (4, 3)), (3, (4, 2)), (2, (4, 1)), (1, (4, 0)), (0, (6, 0))]) (stN := []) (hsC := jpA_22) (hsD := jpA_20) (v := (0, 0)) (st2 := [(0, 0)]) (hs2 := jpA_306) (jA_285_1098 (d := 0) (by omega)) (by rfl) (by rfl) (by decide +kernel) (by rfl) (by rfl) (by omega) (by omega) (by omega) (by omega) rfl (by decide +kernel) ?_
  refine jT_xistore (v := (0, 0)) (LN := [(7, (0, 0)), (6, (0, 1)), (5, (0, 0)), (4, (4, 3)), (3, (4, 2)), (2, (4, 1)), (1, (4, 0)), (0, (6, 0))]) (pcN := 2567) jI_379_2565 rfl rfl rfl rfl ?_
  refine jT_xaload_n (v := (4, 1)) (pcN := 2568) jI_379_2567 rfl rfl rfl ?_
  refine jT_fR [1, 15, 16, 17, 18, 19, 20, 21, 22, 23, 24, 25, 26, 27, 28, 29] 30 (y := 186) (pcN := 2571) (dC := 0) (bc1 := 0) (bc2 := 0) (c1 := 0) (c2 := 0) (as := [(4, 1)]) (asC := [(4, 0)]) (LN := [(7, (0, 0)), (6, (0, 1)), (5, (0, 0)), (4, (4, 3)), (3, (4, 2)), (2, (4, 1)), (1, (4, 0)), (0, (6, 0))]) (stN := []) (hsC := jpA_20) (v := (0, 1)) (st2 := [(0, 1)]) (jA_186_8 (d := 0)) (by rfl) (by rfl) (by decide +kernel) (by rfl) (by rfl) (by omega) (by omega) (by omega) (by omega) rfl ?_
  refine jT_xiload (v := (0, 1)) (pcN := 2573) jI_379_2571 rfl rfl rfl ?_
  refine jT_xicT (pcN := 2578) jI_379_2573 rfl (by decide +kernel) rfl ?_
  refine jT_xiload (v := (0, 1)) (pcN := 2580) jI_379_2578 rfl rfl rfl ?_
  refine jT_xifT (pcN := 2595) jI_379_2580 rfl (by decide +kernel) rfl ?_
  refine jT_xgoto (pcN := 3740) jI_379_2595 rfl ?_
  refine jT_xiinc (x := 0) (z := 5) (LN := [(5, (0, 5)), (7, (0, 0)), (6, (0, 1)), (4, (4, 3)), (3, (4, 2)), (2, (4, 1)), (1, (4, 0)), (0, (6, 0))]) (pcN := 3743) jI_379_3740 rfl rfl (by decide) rfl rfl ?_
  refine jT_xgoto (pcN := 28) jI_379_3743 rfl ?_
  refine jT_xiload (v := (0, 5)) (pcN := 30) jI_379_28 rfl rfl rfl ?_
  refine jT_xaload_n (v := (6, 0)) (pcN := 31) jI_379_30 rfl rfl rfl ?_
  refine jT_adv 1 (pcN := 32) (LN := [(5, (0, 5)), (7, (0, 0)), (6, (0, 1)), (4, (4, 3)), (3, (4, 2)), (2, (4, 1)), (1, (4, 0)), (0, (6, 0))]) (stN := [(0, 5), (0, 5)]) (hsN := jpA_306) (c1 := 0) (s1 := 0) (c2 := 0) (s2 := 0) (by exact rfl) ?_ (by omega) (by omega)
  refine jT_xiconst (k := 5) (pcN := 33) jI_379_32 rfl ?_
  refine jT_xisub (x := 5) (y := 5) (z := 0) (pcN := 34) jI_379_33 rfl (by decide) rfl ?_
  refine jT_xicT (pcN := 3746) jI_379_34 rfl (by decide +kernel) rfl ?_
  refine jT_xiconst (k := 1) (pcN := 3747) jI_379_3746 rfl ?_
  exact jT_ret rfl (by decide) (by show 30 ≤ 30; decide) (by omega) (by omega) ⟨rfl, rfl⟩
theorem jI_379_2583 : jmI (jm 379) 2583 = (.aload_n 3, 1) := by rfl
theorem jI_379_2584 : jmI (jm 379) 2584 = (.iconst 0, 1) := by rfl
theorem jI_379_2585 : jmI (jm 379) 2585 = (.laload, 1) := by rfl
theorem jI_379_2586 : jmI (jm 379) 2586 = (.iload 7, 2) := by rfl
theorem jI_379_2588 : jmI (jm 379) 2588 = (.i2l, 1) := by rfl
theorem jI_379_2590 : jmI (jm 379) 2590 = (.ifCond .eq 5, 3) := by rfl
set_option maxRecDepth 100000 in
theorem jL_33_1 {d : Nat} {x0 x1 x2 x3 x4 : Int} (h_x0 : (-2147483648) ≤ x0 ∧ x0 ≤ 2147483647) (h_x1 : 0 ≤ x1 ∧ x1 ≤ 0) (h_x2 : (-2147483648) ≤ x2 ∧ x2 ≤ 2147483647) (h_x3 : (-2147483648) ≤ x3 ∧ x3 ≤ 2147483647) (h_x4 : (-2147483648) ≤ x4 ∧ x4 ≤ 2147483647) : jT [x0, x1, x2, x3, x4] (d + 8) 379 44 2542 [(5, (0, 0)), (4, (4, 3)), (3, (4, 2)), (2, (4, 1)), (1, (4, 0)), (0, (6, 0))] [] jpA_3802 7 19 (fun k v hsN => k = 0 ∧ v = (0, 1)) := by
  refine jT_xaload_n (v := (4, 0)) (pcN := 2543) jI_379_2542 rfl rfl rfl ?_
  refine jT_xaload_n (v := (6, 0)) (pcN := 2544) jI_379_2543 rfl rfl rfl ?_
  refine jT_xiload (v := (0, 0)) (pcN := 2546) jI_379_2544 rfl rfl rfl ?_
  refine jT_xiconst (k := 1) (pcN := 2547) jI_379_2546 rfl ?_
  refine jT_xiadd (x := 0) (y := 1) (z := 1) (pcN := 2548) jI_379_2547 rfl (by decide) rfl ?_
  refine jT_adv 1 (pcN := 2549) (LN := [(5, (0, 0)), (4, (4, 3)), (3, (4, 2)), (2, (4, 1)), (1, (4, 0)), (0, (6, 0))]) (stN := [(0, x1), (4, 0)]) (hsN := jpA_3802) (c1 := 0) (s1 := 0) (c2 := 7) (s2 := 19) (by exact rfl) ?_ (by omega) (by omega)
  refine jT_eq (LN := [(5, (0, 0)), (4, (4, 3)), (3, (4, 2)), (2, (4, 1)), (1, (4, 0)), (0, (6, 0))]) (stN := [(0, 0), (4, 0)]) (hsN := [jzA_265, jzA_266, (101, [], [0]), jgh, (8, [(4, 30), (4, 31)], []), jgh, jgh, jgh, jgh, jgh, jgh, jgh, jgh, jgh, jzA_721, (100, [], jS0), jgh, jgh, jgh, jgh, jgh, (101, [], [0, 0, 0, 0, 0, 0]), (100, [], (List.replicate 1792 0)), jgh, jgh, jgh, jgh, jgh, jgh, jgh, jgh, (101, [], [0, 0, 0, 0, 0, 0]), jgh, (117, [], [37, 38, 39, 40]), jgh, jgh, jgh, (7, [(4, 41), (4, (-1)), (4, (-1))], []), jgh, jgh, jgh, (114, [], [42]), (4, [(4, 43), (1, 1)], []), (101, [], [0, 0, 0, 0, 0, 0])]) (rfl) (by simp only [List.cons.injEq, Prod.mk.injEq, and_true, true_and] <;> ((try unfold jw); (try unfold jwl); omega)) (rfl) ?_
  refine jT_xaload_n (v := (4, 2)) (pcN := 2550) jI_379_2549 rfl rfl rfl ?_
  refine jT_fB [0, 2, 4, 5, 6, 7, 8, 9, 10, 11, 12, 13, 14, 30, 31, 32, 33, 34, 35, 36, 37, 38, 39, 40, 41, 42, 43] 44 (y := 357) (pcN := 2553) (dC := 7) (bc1 := 7) (bc2 := 19) (c1 := 0) (c2 := 0) (as := [(4, 0), (0, 0), (4, 2)]) (asC := [(4, 0), (0, 0), (4, 1)]) (LN := [(5, (0, 0)), (4, (4, 3)), (3, (4, 2)), (2, (4, 1)), (1, (4, 0)), (0, (6, 0))]) (stN := []) (hsC := jpA_3744) (hsD := jpA_3746) (v := (0, 0)) (st2 := [(0, 0)]) (hs2 := jpA_3803) (jA_357_1103 (d := 0)) (by rfl) (by rfl) (by decide +kernel) (by rfl) (by rfl) (by omega) (by omega) (by omega) (by omega) rfl (by decide +kernel) ?_
  refine jT_xistore (v := (0, 0)) (LN := [(6, (0, 0)), (5, (0, 0)), (4, (4, 3)), (3, (4, 2)), (2, (4, 1)), (1, (4, 0)), (0, (6, 0))]) (pcN := 2555) jI_379_2553 rfl rfl rfl rfl ?_
  refine jT_xaload_n (v := (4, 1)) (pcN := 2556) jI_379_2555 rfl rfl rfl ?_
  refine jT_xaload_n (v := (6, 0)) (pcN := 2557) jI_379_2556 rfl rfl rfl ?_
  refine jT_xiload (v := (0, 0)) (pcN := 2559) jI_379_2557 rfl rfl rfl ?_
  refine jT_xiconst (k := 1) (pcN := 2560) jI_379_2559 rfl ?_
  refine jT_xiadd (x := 0) (y := 1) (z := 1) (pcN := 2561) jI_379_2560 rfl (by decide) rfl ?_
  refine jT_adv 1 (pcN := 2562) (LN := [(6, (0, 0)), (5, (0, 0)), (4, (4, 3)), (3, (4, 2)), (2, (4, 1)), (1, (4, 0)), (0, (6, 0))]) (stN := [(0, x1), (4, 1)]) (hsN := jpA_3803) (c1 := 0) (s1 := 0) (c2 := 0) (s2 := 0) (by exact rfl) ?_ (by omega) (by omega)
  refine jT_eq (LN := [(6, (0, 0)), (5, (0, 0)), (4, (4, 3)), (3, (4, 2)), (2, (4, 1)), (1, (4, 0)), (0, (6, 0))]) (stN := [(0, 0), (4, 1)]) (hsN := [jzA_265, jzA_266, (101, [], [1]), jgh, (8, [(4, 30), (4, 31)], []), jgh, jgh, jgh, jgh, jgh, jgh, jgh, jgh, jgh, jzA_721, (100, [], jS0), jgh, jgh, jgh, jgh, jgh, (101, [], [0, 0, 0, 0, 0, 0]), (100, [], (List.replicate 1792 0)), jgh, jgh, jgh, jgh, jgh, jgh, jgh, jgh, (101, [], [0, 0, 0, 0, 0, 0]), jgh, (117, [], [37, 38, 39, 40]), jgh, jgh, jgh, (7, [(4, 41), (4, 45), (4, 50)], []), jgh, jgh, jgh, (114, [], [42]), (4, [(4, 43), (1, 1)], []), (101, [], [0, 0, 0, 0, 0, 0]), (114, [], [49]), (114, [], [49]), (101, [], [0, 0, 0, 0, 0, 0]), (4, [(4, 46), (1, 1)], []), (101, [], [1, 0, 0, 0, 0, 0]), (4, [(4, 48), (1, 1)], []), (100, [], [0])]) (rfl) (by simp only [List.cons.injEq, Prod.mk.injEq, and_true, true_and] <;> ((try unfold jw); (try unfold jwl); omega)) (rfl) ?_
  refine jT_fB [1, 15, 16, 17, 18, 19, 20, 21, 22, 23, 24, 25, 26, 27, 28, 29] 51 (y := 285) (pcN := 2565) (dC := 7) (bc1 := 0) (bc2 := 0) (c1 := 0) (c2 := 0) (as := [(4, 1), (0, 0)]) (asC := [(4, 0), (0, 0)]) (LN := [(6, (0, 0)), (5, (0, 0)), (4, (4, 3)), (3, (4, 2)), (2, (4, 1)), (1, (4, 0)), (0, (6, 0))]) (stN := []) (hsC := jpA_1840) (hsD := jpA_3766) (v := (0, 1)) (st2 := [(0, 1)]) (hs2 := jpA_3805) (jA_285_1105 (d := 0)) (by rfl) (by rfl) (by decide +kernel) (by rfl) (by rfl) (by omega) (by omega) (by omega) (by omega) rfl (by decide +kernel) ?_
  refine jT_xistore (v := (0, 1)) (LN := [(7, (0, 1)), (6, (0, 0)), (5, (0, 0)), (4, (4, 3)), (3, (4, 2)), (2, (4, 1)), (1, (4, 0)), (0, (6, 0))]) (pcN := 2567) jI_379_2565 rfl rfl rfl rfl ?_
  refine jT_xaload_n (v := (4, 1)) (pcN := 2568) jI_379_2567 rfl rfl rfl ?_
  refine jT_fR [1, 15, 16, 17, 18, 19, 20, 21, 22, 23, 24, 25, 26, 27, 28, 29] 51 (y := 186) (pcN := 2571) (dC := 0) (bc1 := 0) (bc2 := 0) (c1 := 0) (c2 := 0) (as := [(4, 1)]) (asC := [(4, 0)]) (LN := [(7, (0, 1)), (6, (0, 0)), (5, (0, 0)), (4, (4, 3)), (3, (4, 2)), (2, (4, 1)), (1, (4, 0)), (0, (6, 0))]) (stN := []) (hsC := jpA_3767) (v := (0, 0)) (st2 := [(0, 0)]) (jA_186_1020 (d := 0)) (by rfl) (by rfl) (by decide +kernel) (by rfl) (by rfl) (by omega) (by omega) (by omega) (by omega) rfl ?_
  refine jT_xiload (v := (0, 0)) (pcN := 2573) jI_379_2571 rfl rfl rfl ?_
  refine jT_xicT (pcN := 2578) jI_379_2573 rfl (by decide +kernel) rfl ?_
  refine jT_xiload (v := (0, 0)) (pcN := 2580) jI_379_2578 rfl rfl rfl ?_
  refine jT_xifF (t := 2595) (pcN := 2583) jI_379_2580 rfl (by decide +kernel) rfl rfl ?_
  refine jT_xaload_n (v := (4, 2)) (pcN := 2584) jI_379_2583 rfl rfl rfl ?_
  refine jT_xiconst (k := 0) (pcN := 2585) jI_379_2584 rfl ?_
  refine jT_lald (x := 1) (a := 2) (j := 0) (fs := []) (X := [1]) jI_379_2585 rfl rfl rfl rfl ?_
  refine jT_eq (LN := [(7, (0, 1)), (6, (0, 0)), (5, (0, 0)), (4, (4, 3)), (3, (4, 2)), (2, (4, 1)), (1, (4, 0)), (0, (6, 0))]) (stN := [(1, 1)]) (hsN := jpA_3805) rfl rfl rfl ?_
  refine jT_xiload (v := (0, 1)) (pcN := 2588) jI_379_2586 rfl rfl rfl ?_
  refine jT_xi2l (x := 1) (z := 1) (pcN := 2589) jI_379_2588 rfl (by decide +kernel) rfl ?_
  refine jT_lcmp (a := 1) (b := 1) (z := 0) (by rfl) (by rfl) (by decide +kernel) (by decide +kernel) (by decide) ?_
  refine jT_xifT (pcN := 2595) jI_379_2590 rfl (by decide +kernel) rfl ?_
  refine jT_xgoto (pcN := 3740) jI_379_2595 rfl ?_
  refine jT_xiinc (x := 0) (z := 5) (LN := [(5, (0, 5)), (7, (0, 1)), (6, (0, 0)), (4, (4, 3)), (3, (4, 2)), (2, (4, 1)), (1, (4, 0)), (0, (6, 0))]) (pcN := 3743) jI_379_3740 rfl rfl (by decide) rfl rfl ?_
  refine jT_xgoto (pcN := 28) jI_379_3743 rfl ?_
  refine jT_xiload (v := (0, 5)) (pcN := 30) jI_379_28 rfl rfl rfl ?_
  refine jT_xaload_n (v := (6, 0)) (pcN := 31) jI_379_30 rfl rfl rfl ?_
  refine jT_adv 1 (pcN := 32) (LN := [(5, (0, 5)), (7, (0, 1)), (6, (0, 0)), (4, (4, 3)), (3, (4, 2)), (2, (4, 1)), (1, (4, 0)), (0, (6, 0))]) (stN := [(0, 5), (0, 5)]) (hsN := jpA_3805) (c1 := 0) (s1 := 0) (c2 := 0) (s2 := 0) (by exact rfl) ?_ (by omega) (by omega)
  refine jT_xiconst (k := 5) (pcN := 33) jI_379_32 rfl ?_
  refine jT_xisub (x := 5) (y := 5) (z := 0) (pcN := 34) jI_379_33 rfl (by decide) rfl ?_
  refine jT_xicT (pcN := 3746) jI_379_34 rfl (by decide +kernel) rfl ?_
  refine jT_xiconst (k := 1) (pcN := 3747) jI_379_3746 rfl ?_
  exact jT_ret rfl (by decide) (by show 44 ≤ 51; decide) (by omega) (by omega) ⟨rfl, rfl⟩
set_option maxRecDepth 100000 in
theorem jL_33_2 {d : Nat} {x0 x1 x2 x3 x4 : Int} (h_x0 : (-2147483648) ≤ x0 ∧ x0 ≤ 2147483647) (h_x1 : 1 ≤ x1 ∧ x1 ≤ 1) (h_x2 : (-2147483648) ≤ x2 ∧ x2 ≤ 2147483647) (h_x3 : (-2147483648) ≤ x3 ∧ x3 ≤ 2147483647) (h_x4 : (-2147483648) ≤ x4 ∧ x4 ≤ 2147483647) : jT [x0, x1, x2, x3, x4] (d + 8) 379 44 2542 [(5, (0, 0)), (4, (4, 3)), (3, (4, 2)), (2, (4, 1)), (1, (4, 0)), (0, (6, 0))] [] jpA_3812 7 19 (fun k v hsN => k = 0 ∧ v = (0, 1)) := by
  refine jT_xaload_n (v := (4, 0)) (pcN := 2543) jI_379_2542 rfl rfl rfl ?_
  refine jT_xaload_n (v := (6, 0)) (pcN := 2544) jI_379_2543 rfl rfl rfl ?_
  refine jT_xiload (v := (0, 0)) (pcN := 2546) jI_379_2544 rfl rfl rfl ?_
  refine jT_xiconst (k := 1) (pcN := 2547) jI_379_2546 rfl ?_
  refine jT_xiadd (x := 0) (y := 1) (z := 1) (pcN := 2548) jI_379_2547 rfl (by decide) rfl ?_
  refine jT_adv 1 (pcN := 2549) (LN := [(5, (0, 0)), (4, (4, 3)), (3, (4, 2)), (2, (4, 1)), (1, (4, 0)), (0, (6, 0))]) (stN := [(0, x1), (4, 0)]) (hsN := jpA_3812) (c1 := 0) (s1 := 0) (c2 := 7) (s2 := 19) (by exact rfl) ?_ (by omega) (by omega)
  refine jT_eq (LN := [(5, (0, 0)), (4, (4, 3)), (3, (4, 2)), (2, (4, 1)), (1, (4, 0)), (0, (6, 0))]) (stN := [(0, 1), (4, 0)]) (hsN := [jzA_265, jzA_266, (101, [], [0]), jgh, (8, [(4, 30), (4, 31)], []), jgh, jgh, jgh, jgh, jgh, jgh, jgh, jgh, jgh, jzA_721, (100, [], jS0), jgh, jgh, jgh, jgh, jgh, (101, [], [0, 0, 0, 0, 0, 0]), (100, [], (List.replicate 1792 0)), jgh, jgh, jgh, jgh, jgh, jgh, jgh, jgh, (101, [], [0, 0, 0, 0, 0, 0]), jgh, (117, [], [37, 38, 39, 40]), jgh, jgh, jgh, jgh, (7, [(4, 41), (4, (-1)), (4, (-1))], []), jgh, jgh, (114, [], [42]), (4, [(4, 43), (1, 1)], []), (101, [], [0, 0, 0, 0, 0, 0])]) (rfl) (by simp only [List.cons.injEq, Prod.mk.injEq, and_true, true_and] <;> ((try unfold jw); (try unfold jwl); omega)) (rfl) ?_
  refine jT_xaload_n (v := (4, 2)) (pcN := 2550) jI_379_2549 rfl rfl rfl ?_
  refine jT_fB [0, 2, 4, 5, 6, 7, 8, 9, 10, 11, 12, 13, 14, 30, 31, 32, 33, 34, 35, 36, 37, 38, 39, 40, 41, 42, 43] 44 (y := 357) (pcN := 2553) (dC := 7) (bc1 := 7) (bc2 := 19) (c1 := 0) (c2 := 0) (as := [(4, 0), (0, 1), (4, 2)]) (asC := [(4, 0), (0, 1), (4, 1)]) (LN := [(5, (0, 0)), (4, (4, 3)), (3, (4, 2)), (2, (4, 1)), (1, (4, 0)), (0, (6, 0))]) (stN := []) (hsC := jpA_3770) (hsD := jpA_3772) (v := (0, 0)) (st2 := [(0, 0)]) (hs2 := jpA_3813) (jA_357_1107 (d := 0)) (by rfl) (by rfl) (by decide +kernel) (by rfl) (by rfl) (by omega) (by omega) (by omega) (by omega) rfl (by decide +kernel) ?_
  refine jT_xistore (v := (0, 0)) (LN := [(6, (0, 0)), (5, (0, 0)), (4, (4, 3)), (3, (4, 2)), (2, (4, 1)), (1, (4, 0)), (0, (6, 0))]) (pcN := 2555) jI_379_2553 rfl rfl rfl rfl ?_
  refine jT_xaload_n (v := (4, 1)) (pcN := 2556) jI_379_2555 rfl rfl rfl ?_
  refine jT_xaload_n (v := (6, 0)) (pcN := 2557) jI_379_2556 rfl rfl rfl ?_
  refine jT_xiload (v := (0, 0)) (pcN := 2559) jI_379_2557 rfl rfl rfl ?_
  refine jT_xiconst (k := 1) (pcN := 2560) jI_379_2559 rfl ?_
  refine jT_xiadd (x := 0) (y := 1) (z := 1) (pcN := 2561) jI_379_2560 rfl (by decide) rfl ?_
  refine jT_adv 1 (pcN := 2562) (LN := [(6, (0, 0)), (5, (0, 0)), (4, (4, 3)), (3, (4, 2)), (2, (4, 1)), (1, (4, 0)), (0, (6, 0))]) (stN := [(0, x1), (4, 1)]) (hsN := jpA_3813) (c1 := 0) (s1 := 0) (c2 := 0) (s2 := 0) (by exact rfl) ?_ (by omega) (by omega)
  refine jT_eq (LN := [(6, (0, 0)), (5, (0, 0)), (4, (4, 3)), (3, (4, 2)), (2, (4, 1)), (1, (4, 0)), (0, (6, 0))]) (stN := [(0, 1), (4, 1)]) (hsN := [jzA_265, jzA_266, (101, [], [1]), jgh, (8, [(4, 30), (4, 31)], []), jgh, jgh, jgh, jgh, jgh, jgh, jgh, jgh, jgh, jzA_721, (100, [], jS0), jgh, jgh, jgh, jgh, jgh, (101, [], [0, 0, 0, 0, 0, 0]), (100, [], (List.replicate 1792 0)), jgh, jgh, jgh, jgh, jgh, jgh, jgh, jgh, (101, [], [0, 0, 0, 0, 0, 0]), jgh, (117, [], [37, 38, 39, 40]), jgh, jgh, jgh, jgh, (7, [(4, 41), (4, 45), (4, 50)], []), jgh, jgh, (114, [], [42]), (4, [(4, 43), (1, 1)], []), (101, [], [0, 0, 0, 0, 0, 0]), (114, [], [49]), (114, [], [49]), (101, [], [0, 0, 0, 0, 0, 0]), (4, [(4, 46), (1, 1)], []), (101, [], [1, 0, 0, 0, 0, 0]), (4, [(4, 48), (1, 1)], []), (100, [], [0])]) (rfl) (by simp only [List.cons.injEq, Prod.mk.injEq, and_true, true_and] <;> ((try unfold jw); (try unfold jwl); omega)) (rfl) ?_
  refine jT_fB [1, 15, 16, 17, 18, 19, 20, 21, 22, 23, 24, 25, 26, 27, 28, 29] 51 (y := 285) (pcN := 2565) (dC := 7) (bc1 := 0) (bc2 := 0) (c1 := 0) (c2 := 0) (as := [(4, 1), (0, 1)]) (asC := [(4, 0), (0, 1)]) (LN := [(6, (0, 0)), (5, (0, 0)), (4, (4, 3)), (3, (4, 2)), (2, (4, 1)), (1, (4, 0)), (0, (6, 0))]) (stN := []) (hsC := jpA_1840) (hsD := jpA_3766) (v := (0, 1)) (st2 := [(0, 1)]) (hs2 := jpA_3814) (jA_285_1109 (d := 0)) (by rfl) (by rfl) (by decide +kernel) (by rfl) (by rfl) (by omega) (by omega) (by omega) (by omega) rfl (by decide +kernel) ?_
  refine jT_xistore (v := (0, 1)) (LN := [(7, (0, 1)), (6, (0, 0)), (5, (0, 0)), (4, (4, 3)), (3, (4, 2)), (2, (4, 1)), (1, (4, 0)), (0, (6, 0))]) (pcN := 2567) jI_379_2565 rfl rfl rfl rfl ?_
  refine jT_xaload_n (v := (4, 1)) (pcN := 2568) jI_379_2567 rfl rfl rfl ?_
  refine jT_fR [1, 15, 16, 17, 18, 19, 20, 21, 22, 23, 24, 25, 26, 27, 28, 29] 51 (y := 186) (pcN := 2571) (dC := 0) (bc1 := 0) (bc2 := 0) (c1 := 0) (c2 := 0) (as := [(4, 1)]) (asC := [(4, 0)]) (LN := [(7, (0, 1)), (6, (0, 0)), (5, (0, 0)), (4, (4, 3)), (3, (4, 2)), (2, (4, 1)), (1, (4, 0)), (0, (6, 0))]) (stN := []) (hsC := jpA_3767) (v := (0, 0)) (st2 := [(0, 0)]) (jA_186_1020 (d := 0)) (by rfl) (by rfl) (by decide +kernel) (by rfl) (by rfl) (by omega) (by omega) (by omega) (by omega) rfl ?_
  refine jT_xiload (v := (0, 0)) (pcN := 2573) jI_379_2571 rfl rfl rfl ?_
  refine jT_xicT (pcN := 2578) jI_379_2573 rfl (by decide +kernel) rfl ?_
  refine jT_xiload (v := (0, 0)) (pcN := 2580) jI_379_2578 rfl rfl rfl ?_
  refine jT_xifF (t := 2595) (pcN := 2583) jI_379_2580 rfl (by decide +kernel) rfl rfl ?_
  refine jT_xaload_n (v := (4, 2)) (pcN := 2584) jI_379_2583 rfl rfl rfl ?_
  refine jT_xiconst (k := 0) (pcN := 2585) jI_379_2584 rfl ?_
  refine jT_lald (x := 1) (a := 2) (j := 0) (fs := []) (X := [1]) jI_379_2585 rfl rfl rfl rfl ?_
  refine jT_eq (LN := [(7, (0, 1)), (6, (0, 0)), (5, (0, 0)), (4, (4, 3)), (3, (4, 2)), (2, (4, 1)), (1, (4, 0)), (0, (6, 0))]) (stN := [(1, 1)]) (hsN := jpA_3814) rfl rfl rfl ?_
  refine jT_xiload (v := (0, 1)) (pcN := 2588) jI_379_2586 rfl rfl rfl ?_
  refine jT_xi2l (x := 1) (z := 1) (pcN := 2589) jI_379_2588 rfl (by decide +kernel) rfl ?_
  refine jT_lcmp (a := 1) (b := 1) (z := 0) (by rfl) (by rfl) (by decide +kernel) (by decide +kernel) (by decide) ?_
  refine jT_xifT (pcN := 2595) jI_379_2590 rfl (by decide +kernel) rfl ?_
  refine jT_xgoto (pcN := 3740) jI_379_2595 rfl ?_
  refine jT_xiinc (x := 0) (z := 5) (LN := [(5, (0, 5)), (7, (0, 1)), (6, (0, 0)), (4, (4, 3)), (3, (4, 2)), (2, (4, 1)), (1, (4, 0)), (0, (6, 0))]) (pcN := 3743) jI_379_3740 rfl rfl (by decide) rfl rfl ?_
  refine jT_xgoto (pcN := 28) jI_379_3743 rfl ?_
  refine jT_xiload (v := (0, 5)) (pcN := 30) jI_379_28 rfl rfl rfl ?_
  refine jT_xaload_n (v := (6, 0)) (pcN := 31) jI_379_30 rfl rfl rfl ?_
  refine jT_adv 1 (pcN := 32) (LN := [(5, (0, 5)), (7, (0, 1)), (6, (0, 0)), (4, (4, 3)), (3, (4, 2)), (2, (4, 1)), (1, (4, 0)), (0, (6, 0))]) (stN := [(0, 5), (0, 5)]) (hsN := jpA_3814) (c1 := 0) (s1 := 0) (c2 := 0) (s2 := 0) (by exact rfl) ?_ (by omega) (by omega)
  refine jT_xiconst (k := 5) (pcN := 33) jI_379_32 rfl ?_
  refine jT_xisub (x := 5) (y := 5) (z := 0) (pcN := 34) jI_379_33 rfl (by decide) rfl ?_
  refine jT_xicT (pcN := 3746) jI_379_34 rfl (by decide +kernel) rfl ?_
  refine jT_xiconst (k := 1) (pcN := 3747) jI_379_3746 rfl ?_
  exact jT_ret rfl (by decide) (by show 44 ≤ 51; decide) (by omega) (by omega) ⟨rfl, rfl⟩
set_option maxRecDepth 100000 in
theorem jL_33_3 {d : Nat} {x0 x1 x2 x3 x4 : Int} (h_x0 : (-2147483648) ≤ x0 ∧ x0 ≤ 2147483647) (h_x1 : 2 ≤ x1 ∧ x1 ≤ 2) (h_x2 : (-2147483648) ≤ x2 ∧ x2 ≤ 2147483647) (h_x3 : (-2147483648) ≤ x3 ∧ x3 ≤ 2147483647) (h_x4 : (-2147483648) ≤ x4 ∧ x4 ≤ 2147483647) : jT [x0, x1, x2, x3, x4] (d + 8) 379 44 2542 [(5, (0, 0)), (4, (4, 3)), (3, (4, 2)), (2, (4, 1)), (1, (4, 0)), (0, (6, 0))] [] jpA_3815 7 19 (fun k v hsN => k = 0 ∧ v = (0, 1)) := by
  refine jT_xaload_n (v := (4, 0)) (pcN := 2543) jI_379_2542 rfl rfl rfl ?_
  refine jT_xaload_n (v := (6, 0)) (pcN := 2544) jI_379_2543 rfl rfl rfl ?_
  refine jT_xiload (v := (0, 0)) (pcN := 2546) jI_379_2544 rfl rfl rfl ?_
  refine jT_xiconst (k := 1) (pcN := 2547) jI_379_2546 rfl ?_
  refine jT_xiadd (x := 0) (y := 1) (z := 1) (pcN := 2548) jI_379_2547 rfl (by decide) rfl ?_
  refine jT_adv 1 (pcN := 2549) (LN := [(5, (0, 0)), (4, (4, 3)), (3, (4, 2)), (2, (4, 1)), (1, (4, 0)), (0, (6, 0))]) (stN := [(0, x1), (4, 0)]) (hsN := jpA_3815) (c1 := 0) (s1 := 0) (c2 := 7) (s2 := 19) (by exact rfl) ?_ (by omega) (by omega)
  refine jT_eq (LN := [(5, (0, 0)), (4, (4, 3)), (3, (4, 2)), (2, (4, 1)), (1, (4, 0)), (0, (6, 0))]) (stN := [(0, 2), (4, 0)]) (hsN := [jzA_265, jzA_266, (101, [], [0]), jgh, (8, [(4, 30), (4, 31)], []), jgh, jgh, jgh, jgh, jgh, jgh, jgh, jgh, jgh, jzA_721, (100, [], jS0), jgh, jgh, jgh, jgh, jgh, (101, [], [0, 0, 0, 0, 0, 0]), (100, [], (List.replicate 1792 0)), jgh, jgh, jgh, jgh, jgh, jgh, jgh, jgh, (101, [], [0, 0, 0, 0, 0, 0]), jgh, (117, [], [37, 38, 39, 40]), jgh, jgh, jgh, jgh, jgh, (7, [(4, 41), (4, (-1)), (4, (-1))], []), jgh, (114, [], [42]), (4, [(4, 43), (1, 1)], []), (101, [], [0, 0, 0, 0, 0, 0])]) (rfl) (by simp only [List.cons.injEq, Prod.mk.injEq, and_true, true_and] <;> ((try unfold jw); (try unfold jwl); omega)) (rfl) ?_
  refine jT_xaload_n (v := (4, 2)) (pcN := 2550) jI_379_2549 rfl rfl rfl ?_
  refine jT_fB [0, 2, 4, 5, 6, 7, 8, 9, 10, 11, 12, 13, 14, 30, 31, 32, 33, 34, 35, 36, 37, 38, 39, 40, 41, 42, 43] 44 (y := 357) (pcN := 2553) (dC := 7) (bc1 := 7) (bc2 := 19) (c1 := 0) (c2 := 0) (as := [(4, 0), (0, 2), (4, 2)]) (asC := [(4, 0), (0, 2), (4, 1)]) (LN := [(5, (0, 0)), (4, (4, 3)), (3, (4, 2)), (2, (4, 1)), (1, (4, 0)), (0, (6, 0))]) (stN := []) (hsC := jpA_3775) (hsD := jpA_3777) (v := (0, 0)) (st2 := [(0, 0)]) (hs2 := jpA_3816) (jA_357_1111 (d := 0)) (by rfl) (by rfl) (by decide +kernel) (by rfl) (by rfl) (by omega) (by omega) (by omega) (by omega) rfl (by decide +kernel) ?_
  refine jT_xistore (v := (0, 0)) (LN := [(6, (0, 0)), (5, (0, 0)), (4, (4, 3)), (3, (4, 2)), (2, (4, 1)), (1, (4, 0)), (0, (6, 0))]) (pcN := 2555) jI_379_2553 rfl rfl rfl rfl ?_
  refine jT_xaload_n (v := (4, 1)) (pcN := 2556) jI_379_2555 rfl rfl rfl ?_
  refine jT_xaload_n (v := (6, 0)) (pcN := 2557) jI_379_2556 rfl rfl rfl ?_
  refine jT_xiload (v := (0, 0)) (pcN := 2559) jI_379_2557 rfl rfl rfl ?_
  refine jT_xiconst (k := 1) (pcN := 2560) jI_379_2559 rfl ?_
  refine jT_xiadd (x := 0) (y := 1) (z := 1) (pcN := 2561) jI_379_2560 rfl (by decide) rfl ?_
  refine jT_adv 1 (pcN := 2562) (LN := [(6, (0, 0)), (5, (0, 0)), (4, (4, 3)), (3, (4, 2)), (2, (4, 1)), (1, (4, 0)), (0, (6, 0))]) (stN := [(0, x1), (4, 1)]) (hsN := jpA_3816) (c1 := 0) (s1 := 0) (c2 := 0) (s2 := 0) (by exact rfl) ?_ (by omega) (by omega)
  refine jT_eq (LN := [(6, (0, 0)), (5, (0, 0)), (4, (4, 3)), (3, (4, 2)), (2, (4, 1)), (1, (4, 0)), (0, (6, 0))]) (stN := [(0, 2), (4, 1)]) (hsN := [jzA_265, jzA_266, (101, [], [1]), jgh, (8, [(4, 30), (4, 31)], []), jgh, jgh, jgh, jgh, jgh, jgh, jgh, jgh, jgh, jzA_721, (100, [], jS0), jgh, jgh, jgh, jgh, jgh, (101, [], [0, 0, 0, 0, 0, 0]), (100, [], (List.replicate 1792 0)), jgh, jgh, jgh, jgh, jgh, jgh, jgh, jgh, (101, [], [0, 0, 0, 0, 0, 0]), jgh, (117, [], [37, 38, 39, 40]), jgh, jgh, jgh, jgh, jgh, (7, [(4, 41), (4, 45), (4, 50)], []), jgh, (114, [], [42]), (4, [(4, 43), (1, 1)], []), (101, [], [0, 0, 0, 0, 0, 0]), (114, [], [49]), (114, [], [49]), (101, [], [0, 0, 0, 0, 0, 0]), (4, [(4, 46), (1, 1)], []), (101, [], [1, 0, 0, 0, 0, 0]), (4, [(4, 48), (1, 1)], []), (100, [], [0])]) (rfl) (by simp only [List.cons.injEq, Prod.mk.injEq, and_true, true_and] <;> ((try unfold jw); (try unfold jwl); omega)) (rfl) ?_
  refine jT_fB [1, 15, 16, 17, 18, 19, 20, 21, 22, 23, 24, 25, 26, 27, 28, 29] 51 (y := 285) (pcN := 2565) (dC := 7) (bc1 := 0) (bc2 := 0) (c1 := 0) (c2 := 0) (as := [(4, 1), (0, 2)]) (asC := [(4, 0), (0, 2)]) (LN := [(6, (0, 0)), (5, (0, 0)), (4, (4, 3)), (3, (4, 2)), (2, (4, 1)), (1, (4, 0)), (0, (6, 0))]) (stN := []) (hsC := jpA_1840) (hsD := jpA_3766) (v := (0, 1)) (st2 := [(0, 1)]) (hs2 := jpA_3817) (jA_285_1113 (d := 0)) (by rfl) (by rfl) (by decide +kernel) (by rfl) (by rfl) (by omega) (by omega) (by omega) (by omega) rfl (by decide +kernel) ?_
  refine jT_xistore (v := (0, 1)) (LN := [(7, (0, 1)), (6, (0, 0)), (5, (0, 0)), (4, (4, 3)), (3, (4, 2)), (2, (4, 1)), (1, (4, 0)), (0, (6, 0))]) (pcN := 2567) jI_379_2565 rfl rfl rfl rfl ?_
  refine jT_xaload_n (v := (4, 1)) (pcN := 2568) jI_379_2567 rfl rfl rfl ?_
  refine jT_fR [1, 15, 16, 17, 18, 19, 20, 21, 22, 23, 24, 25, 26, 27, 28, 29] 51 (y := 186) (pcN := 2571) (dC := 0) (bc1 := 0) (bc2 := 0) (c1 := 0) (c2 := 0) (as := [(4, 1)]) (asC := [(4, 0)]) (LN := [(7, (0, 1)), (6, (0, 0)), (5, (0, 0)), (4, (4, 3)), (3, (4, 2)), (2, (4, 1)), (1, (4, 0)), (0, (6, 0))]) (stN := []) (hsC := jpA_3767) (v := (0, 0)) (st2 := [(0, 0)]) (jA_186_1020 (d := 0)) (by rfl) (by rfl) (by decide +kernel) (by rfl) (by rfl) (by omega) (by omega) (by omega) (by omega) rfl ?_
  refine jT_xiload (v := (0, 0)) (pcN := 2573) jI_379_2571 rfl rfl rfl ?_
  refine jT_xicT (pcN := 2578) jI_379_2573 rfl (by decide +kernel) rfl ?_
  refine jT_xiload (v := (0, 0)) (pcN := 2580) jI_379_2578 rfl rfl rfl ?_
  refine jT_xifF (t := 2595) (pcN := 2583) jI_379_2580 rfl (by decide +kernel) rfl rfl ?_
  refine jT_xaload_n (v := (4, 2)) (pcN := 2584) jI_379_2583 rfl rfl rfl ?_
  refine jT_xiconst (k := 0) (pcN := 2585) jI_379_2584 rfl ?_
  refine jT_lald (x := 1) (a := 2) (j := 0) (fs := []) (X := [1]) jI_379_2585 rfl rfl rfl rfl ?_
  refine jT_eq (LN := [(7, (0, 1)), (6, (0, 0)), (5, (0, 0)), (4, (4, 3)), (3, (4, 2)), (2, (4, 1)), (1, (4, 0)), (0, (6, 0))]) (stN := [(1, 1)]) (hsN := jpA_3817) rfl rfl rfl ?_
  refine jT_xiload (v := (0, 1)) (pcN := 2588) jI_379_2586 rfl rfl rfl ?_
  refine jT_xi2l (x := 1) (z := 1) (pcN := 2589) jI_379_2588 rfl (by decide +kernel) rfl ?_
  refine jT_lcmp (a := 1) (b := 1) (z := 0) (by rfl) (by rfl) (by decide +kernel) (by decide +kernel) (by decide) ?_
  refine jT_xifT (pcN := 2595) jI_379_2590 rfl (by decide +kernel) rfl ?_
  refine jT_xgoto (pcN := 3740) jI_379_2595 rfl ?_
  refine jT_xiinc (x := 0) (z := 5) (LN := [(5, (0, 5)), (7, (0, 1)), (6, (0, 0)), (4, (4, 3)), (3, (4, 2)), (2, (4, 1)), (1, (4, 0)), (0, (6, 0))]) (pcN := 3743) jI_379_3740 rfl rfl (by decide) rfl rfl ?_
  refine jT_xgoto (pcN := 28) jI_379_3743 rfl ?_
  refine jT_xiload (v := (0, 5)) (pcN := 30) jI_379_28 rfl rfl rfl ?_
  refine jT_xaload_n (v := (6, 0)) (pcN := 31) jI_379_30 rfl rfl rfl ?_
  refine jT_adv 1 (pcN := 32) (LN := [(5, (0, 5)), (7, (0, 1)), (6, (0, 0)), (4, (4, 3)), (3, (4, 2)), (2, (4, 1)), (1, (4, 0)), (0, (6, 0))]) (stN := [(0, 5), (0, 5)]) (hsN := jpA_3817) (c1 := 0) (s1 := 0) (c2 := 0) (s2 := 0) (by exact rfl) ?_ (by omega) (by omega)
  refine jT_xiconst (k := 5) (pcN := 33) jI_379_32 rfl ?_
  refine jT_xisub (x := 5) (y := 5) (z := 0) (pcN := 34) jI_379_33 rfl (by decide) rfl ?_
  refine jT_xicT (pcN := 3746) jI_379_34 rfl (by decide +kernel) rfl ?_
  refine jT_xiconst (k := 1) (pcN := 3747) jI_379_3746 rfl ?_
  exact jT_ret rfl (by decide) (by show 44 ≤ 51; decide) (by omega) (by omega) ⟨rfl, rfl⟩
set_option maxRecDepth 100000 in
theorem jL_33_4 {d : Nat} {x0 x1 x2 x3 x4 : Int} (h_x0 : (-2147483648) ≤ x0 ∧ x0 ≤ 2147483647) (h_x1 : 3 ≤ x1 ∧ x1 ≤ 3) (h_x2 : (-2147483648) ≤ x2 ∧ x2 ≤ 2147483647) (h_x3 : (-2147483648) ≤ x3 ∧ x3 ≤ 2147483647) (h_x4 : (-2147483648) ≤ x4 ∧ x4 ≤ 2147483647) : jT [x0, x1, x2, x3, x4] (d + 8) 379 44 2542 [(5, (0, 0)), (4, (4, 3)), (3, (4, 2)), (2, (4, 1)), (1, (4, 0)), (0, (6, 0))] [] jpA_3818 7 19 (fun k v hsN => k = 0 ∧ v = (0, 1)) := by
  refine jT_xaload_n (v := (4, 0)) (pcN := 2543) jI_379_2542 rfl rfl rfl ?_
  refine jT_xaload_n (v := (6, 0)) (pcN := 2544) jI_379_2543 rfl rfl rfl ?_
  refine jT_xiload (v := (0, 0)) (pcN := 2546) jI_379_2544 rfl rfl rfl ?_
  refine jT_xiconst (k := 1) (pcN := 2547) jI_379_2546 rfl ?_
  refine jT_xiadd (x := 0) (y := 1) (z := 1) (pcN := 2548) jI_379_2547 rfl (by decide) rfl ?_
  refine jT_adv 1 (pcN := 2549) (LN := [(5, (0, 0)), (4, (4, 3)), (3, (4, 2)), (2, (4, 1)), (1, (4, 0)), (0, (6, 0))]) (stN := [(0, x1), (4, 0)]) (hsN := jpA_3818) (c1 := 0) (s1 := 0) (c2 := 7) (s2 := 19) (by exact rfl) ?_ (by omega) (by omega)
  refine jT_eq (LN := [(5, (0, 0)), (4, (4, 3)), (3, (4, 2)), (2, (4, 1)), (1, (4, 0)), (0, (6, 0))]) (stN := [(0, 3), (4, 0)]) (hsN := [jzA_265, jzA_266, (101, [], [0]), jgh, (8, [(4, 30), (4, 31)], []), jgh, jgh, jgh, jgh, jgh, jgh, jgh, jgh, jgh, jzA_721, (100, [], jS0), jgh, jgh, jgh, jgh, jgh, (101, [], [0, 0, 0, 0, 0, 0]), (100, [], (List.replicate 1792 0)), jgh, jgh, jgh, jgh, jgh, jgh, jgh, jgh, (101, [], [0, 0, 0, 0, 0, 0]), jgh, (117, [], [37, 38, 39, 40]), jgh, jgh, jgh, jgh, jgh, jgh, (7, [(4, 41), (4, (-1)), (4, (-1))], []), (114, [], [42]), (4, [(4, 43), (1, 1)], []), (101, [], [0, 0, 0, 0, 0, 0])]) (rfl) (by simp only [List.cons.injEq, Prod.mk.injEq, and_true, true_and] <;> ((try unfold jw); (try unfold jwl); omega)) (rfl) ?_
  refine jT_xaload_n (v := (4, 2)) (pcN := 2550) jI_379_2549 rfl rfl rfl ?_
  refine jT_fB [0, 2, 4, 5, 6, 7, 8, 9, 10, 11, 12, 13, 14, 30, 31, 32, 33, 34, 35, 36, 37, 38, 39, 40, 41, 42, 43] 44 (y := 357) (pcN := 2553) (dC := 7) (bc1 := 7) (bc2 := 19) (c1 := 0) (c2 := 0) (as := [(4, 0), (0, 3), (4, 2)]) (asC := [(4, 0), (0, 3), (4, 1)]) (LN := [(5, (0, 0)), (4, (4, 3)), (3, (4, 2)), (2, (4, 1)), (1, (4, 0)), (0, (6, 0))]) (stN := []) (hsC := jpA_3780) (hsD := jpA_3782) (v := (0, 0)) (st2 := [(0, 0)]) (hs2 := jpA_3819) (jA_357_1115 (d := 0)) (by rfl) (by rfl) (by decide +kernel) (by rfl) (by rfl) (by omega) (by omega) (by omega) (by omega) rfl (by decide +kernel) ?_
  refine jT_xistore (v := (0, 0)) (LN := [(6, (0, 0)), (5, (0, 0)), (4, (4, 3)), (3, (4, 2)), (2, (4, 1)), (1, (4, 0)), (0, (6, 0))]) (pcN := 2555) jI_379_2553 rfl rfl rfl rfl ?_
  refine jT_xaload_n (v := (4, 1)) (pcN := 2556) jI_379_2555 rfl rfl rfl ?_
  refine jT_xaload_n (v := (6, 0)) (pcN := 2557) jI_379_2556 rfl rfl rfl ?_
  refine jT_xiload (v := (0, 0)) (pcN := 2559) jI_379_2557 rfl rfl rfl ?_
  refine jT_xiconst (k := 1) (pcN := 2560) jI_379_2559 rfl ?_
  refine jT_xiadd (x := 0) (y := 1) (z := 1) (pcN := 2561) jI_379_2560 rfl (by decide) rfl ?_
  refine jT_adv 1 (pcN := 2562) (LN := [(6, (0, 0)), (5, (0, 0)), (4, (4, 3)), (3, (4, 2)), (2, (4, 1)), (1, (4, 0)), (0, (6, 0))]) (stN := [(0, x1), (4, 1)]) (hsN := jpA_3819) (c1 := 0) (s1 := 0) (c2 := 0) (s2 := 0) (by exact rfl) ?_ (by omega) (by omega)
  refine jT_eq (LN := [(6, (0, 0)), (5, (0, 0)), (4, (4, 3)), (3, (4, 2)), (2, (4, 1)), (1, (4, 0)), (0, (6, 0))]) (stN := [(0, 3), (4, 1)]) (hsN := [jzA_265, jzA_266, (101, [], [1]), jgh, (8, [(4, 30), (4, 31)], []), jgh, jgh, jgh, jgh, jgh, jgh, jgh, jgh, jgh, jzA_721, (100, [], jS0), jgh, jgh, jgh, jgh, jgh, (101, [], [0, 0, 0, 0, 0, 0]), (100, [], (List.replicate 1792 0)), jgh, jgh, jgh, jgh, jgh, jgh, jgh, jgh, (101, [], [0, 0, 0, 0, 0, 0]), jgh, (117, [], [37, 38, 39, 40]), jgh, jgh, jgh, jgh, jgh, jgh, (7, [(4, 41), (4, 45), (4, 50)], []), (114, [], [42]), (4, [(4, 43), (1, 1)], []), (101, [], [0, 0, 0, 0, 0, 0]), (114, [], [49]), (114, [], [49]), (101, [], [0, 0, 0, 0, 0, 0]), (4, [(4, 46), (1, 1)], []), (101, [], [1, 0, 0, 0, 0, 0]), (4, [(4, 48), (1, 1)], []), (100, [], [0])]) (rfl) (by simp only [List.cons.injEq, Prod.mk.injEq, and_true, true_and] <;> ((try unfold jw); (try unfold jwl); omega)) (rfl) ?_
  refine jT_fB [1, 15, 16, 17, 18, 19, 20, 21, 22, 23, 24, 25, 26, 27, 28, 29] 51 (y := 285) (pcN := 2565) (dC := 7) (bc1 := 0) (bc2 := 0) (c1 := 0) (c2 := 0) (as := [(4, 1), (0, 3)]) (asC := [(4, 0), (0, 3)]) (LN := [(6, (0, 0)), (5, (0, 0)), (4, (4, 3)), (3, (4, 2)), (2, (4, 1)), (1, (4, 0)), (0, (6, 0))]) (stN := []) (hsC := jpA_1840) (hsD := jpA_3766) (v := (0, 1)) (st2 := [(0, 1)]) (hs2 := jpA_3820) (jA_285_1117 (d := 0)) (by rfl) (by rfl) (by decide +kernel) (by rfl) (by rfl) (by omega) (by omega) (by omega) (by omega) rfl (by decide +kernel) ?_
  refine jT_xistore (v := (0, 1)) (LN := [(7, (0, 1)), (6, (0, 0)), (5, (0, 0)), (4, (4, 3)), (3, (4, 2)), (2, (4, 1)), (1, (4, 0)), (0, (6, 0))]) (pcN := 2567) jI_379_2565 rfl rfl rfl rfl ?_
  refine jT_xaload_n (v := (4, 1)) (pcN := 2568) jI_379_2567 rfl rfl rfl ?_
  refine jT_fR [1, 15, 16, 17, 18, 19, 20, 21, 22, 23, 24, 25, 26, 27, 28, 29] 51 (y := 186) (pcN := 2571) (dC := 0) (bc1 := 0) (bc2 := 0) (c1 := 0) (c2 := 0) (as := [(4, 1)]) (asC := [(4, 0)]) (LN := [(7, (0, 1)), (6, (0, 0)), (5, (0, 0)), (4, (4, 3)), (3, (4, 2)), (2, (4, 1)), (1, (4, 0)), (0, (6, 0))]) (stN := []) (hsC := jpA_3767) (v := (0, 0)) (st2 := [(0, 0)]) (jA_186_1020 (d := 0)) (by rfl) (by rfl) (by decide +kernel) (by rfl) (by rfl) (by omega) (by omega) (by omega) (by omega) rfl ?_
  refine jT_xiload (v := (0, 0)) (pcN := 2573) jI_379_2571 rfl rfl rfl ?_
  refine jT_xicT (pcN := 2578) jI_379_2573 rfl (by decide +kernel) rfl ?_
  refine jT_xiload (v := (0, 0)) (pcN := 2580) jI_379_2578 rfl rfl rfl ?_
  refine jT_xifF (t := 2595) (pcN := 2583) jI_379_2580 rfl (by decide +kernel) rfl rfl ?_
  refine jT_xaload_n (v := (4, 2)) (pcN := 2584) jI_379_2583 rfl rfl rfl ?_
  refine jT_xiconst (k := 0) (pcN := 2585) jI_379_2584 rfl ?_
  refine jT_lald (x := 1) (a := 2) (j := 0) (fs := []) (X := [1]) jI_379_2585 rfl rfl rfl rfl ?_
  refine jT_eq (LN := [(7, (0, 1)), (6, (0, 0)), (5, (0, 0)), (4, (4, 3)), (3, (4, 2)), (2, (4, 1)), (1, (4, 0)), (0, (6, 0))]) (stN := [(1, 1)]) (hsN := jpA_3820) rfl rfl rfl ?_
  refine jT_xiload (v := (0, 1)) (pcN := 2588) jI_379_2586 rfl rfl rfl ?_
  refine jT_xi2l (x := 1) (z := 1) (pcN := 2589) jI_379_2588 rfl (by decide +kernel) rfl ?_
  refine jT_lcmp (a := 1) (b := 1) (z := 0) (by rfl) (by rfl) (by decide +kernel) (by decide +kernel) (by decide) ?_
  refine jT_xifT (pcN := 2595) jI_379_2590 rfl (by decide +kernel) rfl ?_
  refine jT_xgoto (pcN := 3740) jI_379_2595 rfl ?_
  refine jT_xiinc (x := 0) (z := 5) (LN := [(5, (0, 5)), (7, (0, 1)), (6, (0, 0)), (4, (4, 3)), (3, (4, 2)), (2, (4, 1)), (1, (4, 0)), (0, (6, 0))]) (pcN := 3743) jI_379_3740 rfl rfl (by decide) rfl rfl ?_
  refine jT_xgoto (pcN := 28) jI_379_3743 rfl ?_
  refine jT_xiload (v := (0, 5)) (pcN := 30) jI_379_28 rfl rfl rfl ?_
  refine jT_xaload_n (v := (6, 0)) (pcN := 31) jI_379_30 rfl rfl rfl ?_
  refine jT_adv 1 (pcN := 32) (LN := [(5, (0, 5)), (7, (0, 1)), (6, (0, 0)), (4, (4, 3)), (3, (4, 2)), (2, (4, 1)), (1, (4, 0)), (0, (6, 0))]) (stN := [(0, 5), (0, 5)]) (hsN := jpA_3820) (c1 := 0) (s1 := 0) (c2 := 0) (s2 := 0) (by exact rfl) ?_ (by omega) (by omega)
  refine jT_xiconst (k := 5) (pcN := 33) jI_379_32 rfl ?_
  refine jT_xisub (x := 5) (y := 5) (z := 0) (pcN := 34) jI_379_33 rfl (by decide) rfl ?_
  refine jT_xicT (pcN := 3746) jI_379_34 rfl (by decide +kernel) rfl ?_
  refine jT_xiconst (k := 1) (pcN := 3747) jI_379_3746 rfl ?_
  exact jT_ret rfl (by decide) (by show 44 ≤ 51; decide) (by omega) (by omega) ⟨rfl, rfl⟩
set_option maxRecDepth 100000 in
theorem jL_33_5 {d : Nat} {x0 x1 x2 x3 x4 : Int} (h_x0 : (-2147483648) ≤ x0 ∧ x0 ≤ 2147483647) (h_x1 : 4 ≤ x1 ∧ x1 ≤ 2147483647) (h_x2 : (-2147483648) ≤ x2 ∧ x2 ≤ 2147483647) (h_x3 : (-2147483648) ≤ x3 ∧ x3 ≤ 2147483647) (h_x4 : (-2147483648) ≤ x4 ∧ x4 ≤ 2147483647) : jT [x0, x1, x2, x3, x4] (d + 3) 379 30 2542 [(5, (0, 0)), (4, (4, 3)), (3, (4, 2)), (2, (4, 1)), (1, (4, 0)), (0, (6, 0))] [] jpA_267 1 6 (fun k v hsN => k = 0 ∧ v = (0, 1)) := by
  refine jT_xaload_n (v := (4, 0)) (pcN := 2543) jI_379_2542 rfl rfl rfl ?_
  refine jT_xaload_n (v := (6, 0)) (pcN := 2544) jI_379_2543 rfl rfl rfl ?_
  refine jT_xiload (v := (0, 0)) (pcN := 2546) jI_379_2544 rfl rfl rfl ?_
  refine jT_xiconst (k := 1) (pcN := 2547) jI_379_2546 rfl ?_
  refine jT_xiadd (x := 0) (y := 1) (z := 1) (pcN := 2548) jI_379_2547 rfl (by decide) rfl ?_
  refine jT_adv 1 (pcN := 2549) (LN := [(5, (0, 0)), (4, (4, 3)), (3, (4, 2)), (2, (4, 1)), (1, (4, 0)), (0, (6, 0))]) (stN := [(0, x1), (4, 0)]) (hsN := jpA_267) (c1 := 0) (s1 := 0) (c2 := 1) (s2 := 6) (by exact rfl) ?_ (by omega) (by omega)
  refine jT_xaload_n (v := (4, 2)) (pcN := 2550) jI_379_2549 rfl rfl rfl ?_
  refine jT_fR [0, 2, 4, 5, 6, 7, 8, 9, 10, 11, 12, 13, 14] 30 (y := 357) (pcN := 2553) (dC := 2) (bc1 := 1) (bc2 := 6) (c1 := 0) (c2 := 0) (as := [(4, 0), (0, x1), (4, 2)]) (asC := [(4, 0), (0, x1), (4, 1)]) (LN := [(5, (0, 0)), (4, (4, 3)), (3, (4, 2)), (2, (4, 1)), (1, (4, 0)), (0, (6, 0))]) (stN := []) (hsC := jpA_15) (v := (0, 1)) (st2 := [(0, 1)]) (jA_357_1119 (d := 0) (by omega)) (by rfl) (by rfl) (by decide +kernel) (by rfl) (by rfl) (by omega) (by omega) (by omega) (by omega) rfl ?_
  refine jT_xistore (v := (0, 1)) (LN := [(6, (0, 1)), (5, (0, 0)), (4, (4, 3)), (3, (4, 2)), (2, (4, 1)), (1, (4, 0)), (0, (6, 0))]) (pcN := 2555) jI_379_2553 rfl rfl rfl rfl ?_
  refine jT_xaload_n (v := (4, 1)) (pcN := 2556) jI_379_2555 rfl rfl rfl ?_
  refine jT_xaload_n (v := (6, 0)) (pcN := 2557) jI_379_2556 rfl rfl rfl ?_
  refine jT_xiload (v := (0, 0)) (pcN := 2559) jI_379_2557 rfl rfl rfl ?_
  refine jT_xiconst (k := 1) (pcN := 2560) jI_379_2559 rfl ?_
  refine jT_xiadd (x := 0) (y := 1) (z := 1) (pcN := 2561) jI_379_2560 rfl (by decide) rfl ?_
  refine jT_adv 1 (pcN := 2562) (LN := [(6, (0, 1)), (5, (0, 0)), (4, (4, 3)), (3, (4, 2)), (2, (4, 1)), (1, (4, 0)), (0, (6, 0))]) (stN := [(0, x1), (4, 1)]) (hsN := jpA_267) (c1 := 0) (s1 := 0) (c2 := 0) (s2 := 0) (by exact rfl) ?_ (by omega) (by omega)
  refine jT_fB [1, 15, 16, 17, 18, 19, 20, 21, 22, 23, 24, 25, 26, 27, 28, 29] 30 (y := 285) (pcN := 2565) (dC := 2) (bc1 := 0) (bc2 := 0) (c1 := 0) (c2 := 0) (as := [(4, 1), (0, x1)]) (asC := [(4, 0), (0, x1)]) (LN := [(6, (0, 1)), (5, (0, 0)), (4, (4, 3)), (3, (4, 2)), (2, (4, 1)), (1, (4, 0)), (0, (6, 0))]) (stN := []) (hsC := jpA_22) (hsD := jpA_20) (v := (0, 0)) (st2 := [(0, 0)]) (hs2 := jpA_306) (jA_285_1120 (d := 0) (by omega)) (by rfl) (by rfl) (by decide +kernel) (by rfl) (by rfl) (by omega) (by omega) (by omega) (by omega) rfl (by decide +kernel) ?_
  refine jT_xistore (v := (0, 0)) (LN := [(7, (0, 0)), (6, (0, 1)), (5, (0, 0)), (4, (4, 3)), (3, (4, 2)), (2, (4, 1)), (1, (4, 0)), (0, (6, 0))]) (pcN := 2567) jI_379_2565 rfl rfl rfl rfl ?_
  refine jT_xaload_n (v := (4, 1)) (pcN := 2568) jI_379_2567 rfl rfl rfl ?_
  refine jT_fR [1, 15, 16, 17, 18, 19, 20, 21, 22, 23, 24, 25, 26, 27, 28, 29] 30 (y := 186) (pcN := 2571) (dC := 0) (bc1 := 0) (bc2 := 0) (c1 := 0) (c2 := 0) (as := [(4, 1)]) (asC := [(4, 0)]) (LN := [(7, (0, 0)), (6, (0, 1)), (5, (0, 0)), (4, (4, 3)), (3, (4, 2)), (2, (4, 1)), (1, (4, 0)), (0, (6, 0))]) (stN := []) (hsC := jpA_20) (v := (0, 1)) (st2 := [(0, 1)]) (jA_186_8 (d := 0)) (by rfl) (by rfl) (by decide +kernel) (by rfl) (by rfl) (by omega) (by omega) (by omega) (by omega) rfl ?_
  refine jT_xiload (v := (0, 1)) (pcN := 2573) jI_379_2571 rfl rfl rfl ?_
  refine jT_xicT (pcN := 2578) jI_379_2573 rfl (by decide +kernel) rfl ?_
  refine jT_xiload (v := (0, 1)) (pcN := 2580) jI_379_2578 rfl rfl rfl ?_
  refine jT_xifT (pcN := 2595) jI_379_2580 rfl (by decide +kernel) rfl ?_
  refine jT_xgoto (pcN := 3740) jI_379_2595 rfl ?_
  refine jT_xiinc (x := 0) (z := 5) (LN := [(5, (0, 5)), (7, (0, 0)), (6, (0, 1)), (4, (4, 3)), (3, (4, 2)), (2, (4, 1)), (1, (4, 0)), (0, (6, 0))]) (pcN := 3743) jI_379_3740 rfl rfl (by decide) rfl rfl ?_
  refine jT_xgoto (pcN := 28) jI_379_3743 rfl ?_
  refine jT_xiload (v := (0, 5)) (pcN := 30) jI_379_28 rfl rfl rfl ?_
  refine jT_xaload_n (v := (6, 0)) (pcN := 31) jI_379_30 rfl rfl rfl ?_
  refine jT_adv 1 (pcN := 32) (LN := [(5, (0, 5)), (7, (0, 0)), (6, (0, 1)), (4, (4, 3)), (3, (4, 2)), (2, (4, 1)), (1, (4, 0)), (0, (6, 0))]) (stN := [(0, 5), (0, 5)]) (hsN := jpA_306) (c1 := 0) (s1 := 0) (c2 := 0) (s2 := 0) (by exact rfl) ?_ (by omega) (by omega)
  refine jT_xiconst (k := 5) (pcN := 33) jI_379_32 rfl ?_
  refine jT_xisub (x := 5) (y := 5) (z := 0) (pcN := 34) jI_379_33 rfl (by decide) rfl ?_
  refine jT_xicT (pcN := 3746) jI_379_34 rfl (by decide +kernel) rfl ?_
  refine jT_xiconst (k := 1) (pcN := 3747) jI_379_3746 rfl ?_
  exact jT_ret rfl (by decide) (by show 30 ≤ 30; decide) (by omega) (by omega) ⟨rfl, rfl⟩
theorem jI_157_0 : jmI (jm 157) 0 = (.aload_n 0, 1) := by rfl
theorem jI_157_1 : jmI (jm 157) 1 = (.iload_n 1, 1) := by rfl
theorem jI_157_2 : jmI (jm 157) 2 = (.bipush 8, 2) := by rfl
theorem jA_157_1121 {xs : List Int} {d : Nat} {x1 x2 : Int} (h_x1 : (-2147483648) ≤ x1 ∧ x1 ≤ (-1)) (h_x2 : (-2147483648) ≤ x2 ∧ x2 ≤ 2147483647) : jT xs (d + 1) 157 12 0 [(0, (4, 0)), (1, (0, x1)), (2, (0, x2))] [] jpA_6 1 6 (fun k v hsN => k = 1 ∧ v = (0, 0) ∧ hsN = jpA_6 ++ []) := by
  refine jT_xaload_n (v := (4, 0)) (pcN := 1) jI_157_0 rfl rfl rfl ?_
  refine jT_xiload_n (v := (0, x1)) (pcN := 2) jI_157_1 rfl rfl rfl ?_
  refine jT_xbipush (k := 8) (pcN := 4) jI_157_2 (by decide) rfl ?_
  exact jT_fX [0] 12 (y := 115) (pcN := 7) (dC := 0) (bc1 := 1) (bc2 := 6) (as := [(4, 0), (0, x1), (0, 8)]) (asC := [(4, 0), (0, x1), (0, 8)]) (LN := [(0, (4, 0)), (1, (0, x1)), (2, (0, x2))]) (stN := []) (hsC := [jgh]) (e := 0) (jA_115_1 (d := 0) (by omega)) (by rfl) (by rfl) (by decide +kernel) (by rfl) (by rfl) (by omega) (by omega) (by omega) (by omega) ⟨rfl, ⟨rfl, rfl, rfl⟩⟩
theorem jI_359_0 : jmI (jm 359) 0 = (.aload_n 3, 1) := by rfl
theorem jI_359_1 : jmI (jm 359) 1 = (.iconst 0, 1) := by rfl
theorem jI_359_2 : jmI (jm 359) 2 = (.aload_n 0, 1) := by rfl
theorem jI_359_3 : jmI (jm 359) 3 = (.iload_n 1, 1) := by rfl
theorem jI_359_4 : jmI (jm 359) 4 = (.iload_n 2, 1) := by rfl
theorem jA_359_1122 {xs : List Int} {d : Nat} {x1 x2 : Int} (h_x1 : (-2147483648) ≤ x1 ∧ x1 ≤ (-1)) (h_x2 : (-2147483648) ≤ x2 ∧ x2 ≤ 2147483647) : jT xs (d + 2) 359 13 0 [(0, (4, 0)), (1, (0, x1)), (2, (0, x2)), (3, (4, 1))] [] jpA_15 1 6 (fun k v hsN => k = 0 ∧ v = (0, 1) ∧ hsN = jpA_15 ++ []) := by
  refine jT_xaload_n (v := (4, 1)) (pcN := 1) jI_359_0 rfl rfl rfl ?_
  refine jT_xiconst (k := 0) (pcN := 2) jI_359_1 rfl ?_
  refine jT_xaload_n (v := (4, 0)) (pcN := 3) jI_359_2 rfl rfl rfl ?_
  refine jT_xiload_n (v := (0, x1)) (pcN := 4) jI_359_3 rfl rfl rfl ?_
  refine jT_xiload_n (v := (0, x2)) (pcN := 5) jI_359_4 rfl rfl rfl ?_
  exact jT_fX [0, 2, 3, 4, 5, 6, 7, 8, 9, 10, 11, 12] 13 (y := 157) (pcN := 8) (dC := 1) (bc1 := 1) (bc2 := 6) (as := [(4, 0), (0, x1), (0, x2)]) (asC := [(4, 0), (0, x1), (0, x2)]) (LN := [(0, (4, 0)), (1, (0, x1)), (2, (0, x2)), (3, (4, 1))]) (stN := [(0, 0), (4, 1)]) (hsC := jpA_6) (e := 0) (jA_157_1121 (d := 0) (by omega) (by omega)) (by rfl) (by rfl) (by decide +kernel) (by rfl) (by rfl) (by omega) (by omega) (by omega) (by omega) (show _ from ⟨rfl, rfl, rfl⟩)
theorem jI_289_0 : jmI (jm 289) 0 = (.aload_n 0, 1) := by rfl
theorem jI_289_1 : jmI (jm 289) 1 = (.iload_n 1, 1) := by rfl
theorem jI_289_8 : jmI (jm 289) 8 = (.ifCond .ne 20, 3) := by rfl
theorem jI_289_28 : jmI (jm 289) 28 = (.lconst 0, 1) := by rfl
theorem jA_289_1123 {xs : List Int} {d : Nat} {x1 x2 : Int} (h_x1 : (-2147483648) ≤ x1 ∧ x1 ≤ (-1)) (h_x2 : (-2147483648) ≤ x2 ∧ x2 ≤ 2147483647) : jT xs (d + 2) 289 16 0 [(0, (4, 0)), (1, (0, x1)), (2, (0, x2))] [] jpA_22 0 0 (fun k v hsN => k = 0 ∧ v = (1, 0) ∧ hsN = jpA_20) := by
  refine jT_xaload_n (v := (4, 0)) (pcN := 1) jI_289_0 rfl rfl rfl ?_
  refine jT_xiload_n (v := (0, x1)) (pcN := 2) jI_289_1 rfl rfl rfl ?_
  refine jT_fR [] 16 (y := 188) (pcN := 5) (dC := 1) (bc1 := 0) (bc2 := 0) (c1 := 0) (c2 := 0) (as := [(0, x1)]) (asC := [(0, x1)]) (LN := [(0, (4, 0)), (1, (0, x1)), (2, (0, x2))]) (stN := [(4, 0)]) (hsC := []) (v := (0, 0)) (st2 := [(0, 0), (4, 0)]) (jA_188_4 (d := 0) (by omega)) (by rfl) (by rfl) (by decide +kernel) (by rfl) (by rfl) (by omega) (by omega) (by omega) (by omega) rfl ?_
  refine jT_fB [0, 1, 2, 3, 4, 5, 6, 7, 8, 9, 10, 11, 12, 13, 14, 15] 16 (y := 190) (pcN := 8) (dC := 1) (bc1 := 0) (bc2 := 0) (c1 := 0) (c2 := 0) (as := [(4, 0), (0, 0)]) (asC := [(4, 0), (0, 0)]) (LN := [(0, (4, 0)), (1, (0, x1)), (2, (0, x2))]) (stN := []) (hsC := jpA_22) (hsD := jpA_20) (v := (0, 1)) (st2 := [(0, 1)]) (hs2 := jpA_20) (jA_190_6 (d := 0)) (by rfl) (by rfl) (by decide +kernel) (by rfl) (by rfl) (by omega) (by omega) (by omega) (by omega) rfl (by decide +kernel) ?_
  refine jT_xifT (pcN := 28) jI_289_8 rfl (by decide +kernel) rfl ?_
  refine jT_xlconst (z := 0) (pcN := 29) jI_289_28 rfl rfl ?_
  exact jT_ret rfl (by decide) (by show 16 ≤ 16; decide) (by omega) (by omega) ⟨rfl, rfl, rfl⟩
theorem jA_116_1124 {xs : List Int} {d : Nat} {x2 : Int} (h_x2 : (-2147483648) ≤ x2 ∧ x2 ≤ (-1)) : jT xs d 116 1 0 [(0, (4, 0)), (1, (0, x2)), (2, (0, 0)), (3, (0, 15))] [] [jgh] 1 6 (fun k v hsN => k = 1 ∧ v = (0, 1) ∧ hsN = [jgh] ++ []) := by
  refine jT_xiload_n (v := (0, x2)) (pcN := 1) jI_116_0 rfl rfl rfl ?_
  refine jT_xiload_n (v := (0, 0)) (pcN := 2) jI_116_1 rfl rfl rfl ?_
  refine jT_icT (a := x2) (b := 0) (t := 10) (by rfl) (by rfl) (by rfl) (jw_idd (by omega) (by omega)) (jw_idd (by omega) (by omega)) (by simp only [jcP] <;> omega) ?_
  exact jT_ret (c1 := 1) (s1 := 6) rfl (by decide) (by show 1 ≤ 1; decide) (by omega) (by omega) ⟨rfl, rfl, rfl⟩
theorem jI_157_7 : jmI (jm 157) 7 = (.aload_n 0, 1) := by rfl
theorem jI_157_8 : jmI (jm 157) 8 = (.iload_n 2, 1) := by rfl
theorem jI_157_9 : jmI (jm 157) 9 = (.iconst 0, 1) := by rfl
theorem jI_157_10 : jmI (jm 157) 10 = (.bipush 15, 2) := by rfl
theorem jA_157_1125 {xs : List Int} {d : Nat} {x1 x2 : Int} (h_x1 : 0 ≤ x1 ∧ x1 ≤ 7) (h_x2 : (-2147483648) ≤ x2 ∧ x2 ≤ (-1)) : jT xs (d + 1) 157 12 0 [(0, (4, 0)), (1, (0, x1)), (2, (0, x2))] [] jpA_6 1 6 (fun k v hsN => k = 1 ∧ v = (0, 1) ∧ hsN = jpA_6 ++ []) := by
  refine jT_xaload_n (v := (4, 0)) (pcN := 1) jI_157_0 rfl rfl rfl ?_
  refine jT_xiload_n (v := (0, x1)) (pcN := 2) jI_157_1 rfl rfl rfl ?_
  refine jT_xbipush (k := 8) (pcN := 4) jI_157_2 (by decide) rfl ?_
  refine jT_fR [0] 12 (y := 115) (pcN := 7) (dC := 0) (bc1 := 0) (bc2 := 0) (c1 := 1) (c2 := 6) (as := [(4, 0), (0, x1), (0, 8)]) (asC := [(4, 0), (0, x1), (0, 8)]) (LN := [(0, (4, 0)), (1, (0, x1)), (2, (0, x2))]) (stN := []) (hsC := [jgh]) (v := (9, 0)) (st2 := []) (jA_115_9 (d := 0) (by omega)) (by rfl) (by rfl) (by decide +kernel) (by rfl) (by rfl) (by omega) (by omega) (by omega) (by omega) rfl ?_
  refine jT_xaload_n (v := (4, 0)) (pcN := 8) jI_157_7 rfl rfl rfl ?_
  refine jT_xiload_n (v := (0, x2)) (pcN := 9) jI_157_8 rfl rfl rfl ?_
  refine jT_xiconst (k := 0) (pcN := 10) jI_157_9 rfl ?_
  refine jT_xbipush (k := 15) (pcN := 12) jI_157_10 (by decide) rfl ?_
  exact jT_fX [0] 12 (y := 116) (pcN := 15) (dC := 0) (bc1 := 1) (bc2 := 6) (as := [(4, 0), (0, x2), (0, 0), (0, 15)]) (asC := [(4, 0), (0, x2), (0, 0), (0, 15)]) (LN := [(0, (4, 0)), (1, (0, x1)), (2, (0, x2))]) (stN := []) (hsC := [jgh]) (e := 1) (jA_116_1124 (d := 0) (by omega)) (by rfl) (by rfl) (by decide +kernel) (by rfl) (by rfl) (by omega) (by omega) (by omega) (by omega) ⟨rfl, ⟨rfl, rfl, rfl⟩⟩
theorem jA_359_1126 {xs : List Int} {d : Nat} {x1 x2 : Int} (h_x1 : 0 ≤ x1 ∧ x1 ≤ 7) (h_x2 : (-2147483648) ≤ x2 ∧ x2 ≤ (-1)) : jT xs (d + 2) 359 13 0 [(0, (4, 0)), (1, (0, x1)), (2, (0, x2)), (3, (4, 1))] [] jpA_15 1 6 (fun k v hsN => k = 0 ∧ v = (0, 2) ∧ hsN = jpA_15 ++ []) := by
  refine jT_xaload_n (v := (4, 1)) (pcN := 1) jI_359_0 rfl rfl rfl ?_
  refine jT_xiconst (k := 0) (pcN := 2) jI_359_1 rfl ?_
  refine jT_xaload_n (v := (4, 0)) (pcN := 3) jI_359_2 rfl rfl rfl ?_
  refine jT_xiload_n (v := (0, x1)) (pcN := 4) jI_359_3 rfl rfl rfl ?_
  refine jT_xiload_n (v := (0, x2)) (pcN := 5) jI_359_4 rfl rfl rfl ?_
  exact jT_fX [0, 2, 3, 4, 5, 6, 7, 8, 9, 10, 11, 12] 13 (y := 157) (pcN := 8) (dC := 1) (bc1 := 1) (bc2 := 6) (as := [(4, 0), (0, x1), (0, x2)]) (asC := [(4, 0), (0, x1), (0, x2)]) (LN := [(0, (4, 0)), (1, (0, x1)), (2, (0, x2)), (3, (4, 1))]) (stN := [(0, 0), (4, 1)]) (hsC := jpA_6) (e := 1) (jA_157_1125 (d := 0) (by omega) (by omega)) (by rfl) (by rfl) (by decide +kernel) (by rfl) (by rfl) (by omega) (by omega) (by omega) (by omega) (show _ from ⟨rfl, rfl, rfl⟩)
theorem jI_289_11 : jmI (jm 289) 11 = (.aload_n 0, 1) := by rfl
theorem jI_289_12 : jmI (jm 289) 12 = (.iload_n 2, 1) := by rfl
theorem jI_289_13 : jmI (jm 289) 13 = (.i2l, 1) := by rfl
theorem jI_289_14 : jmI (jm 289) 14 = (.lconst 0, 1) := by rfl
theorem jI_289_21 : jmI (jm 289) 21 = (.iconst 2, 1) := by rfl
theorem jI_289_25 : jmI (jm 289) 25 = (.ifCond .eq 5, 3) := by rfl
theorem jA_289_1127 {xs : List Int} {d : Nat} {x1 x2 : Int} (h_x1 : 0 ≤ x1 ∧ x1 ≤ 7) (h_x2 : (-2147483648) ≤ x2 ∧ x2 ≤ (-1)) : jT xs (d + 2) 289 16 0 [(0, (4, 0)), (1, (0, x1)), (2, (0, x2))] [] jpA_22 0 0 (fun k v hsN => k = 0 ∧ v = (1, 0) ∧ hsN = jpA_361) := by
  refine jT_xaload_n (v := (4, 0)) (pcN := 1) jI_289_0 rfl rfl rfl ?_
  refine jT_xiload_n (v := (0, x1)) (pcN := 2) jI_289_1 rfl rfl rfl ?_
  refine jT_fR [] 16 (y := 188) (pcN := 5) (dC := 1) (bc1 := 0) (bc2 := 0) (c1 := 0) (c2 := 0) (as := [(0, x1)]) (asC := [(0, x1)]) (LN := [(0, (4, 0)), (1, (0, x1)), (2, (0, x2))]) (stN := [(4, 0)]) (hsC := []) (v := (0, 1)) (st2 := [(0, 1), (4, 0)]) (jA_188_13 (d := 0) (by omega)) (by rfl) (by rfl) (by decide +kernel) (by rfl) (by rfl) (by omega) (by omega) (by omega) (by omega) rfl ?_
  refine jT_fR [0, 1, 2, 3, 4, 5, 6, 7, 8, 9, 10, 11, 12, 13, 14, 15] 16 (y := 190) (pcN := 8) (dC := 1) (bc1 := 0) (bc2 := 0) (c1 := 0) (c2 := 0) (as := [(4, 0), (0, 1)]) (asC := [(4, 0), (0, 1)]) (LN := [(0, (4, 0)), (1, (0, x1)), (2, (0, x2))]) (stN := []) (hsC := jpA_22) (v := (0, 0)) (st2 := [(0, 0)]) (jA_190_39 (d := 0)) (by rfl) (by rfl) (by decide +kernel) (by rfl) (by rfl) (by omega) (by omega) (by omega) (by omega) rfl ?_
  refine jT_xifF (t := 28) (pcN := 11) jI_289_8 rfl (by decide +kernel) rfl rfl ?_
  refine jT_xaload_n (v := (4, 0)) (pcN := 12) jI_289_11 rfl rfl rfl ?_
  refine jT_xiload_n (v := (0, x2)) (pcN := 13) jI_289_12 rfl rfl rfl ?_
  refine jT_xi2l (x := x2) (z := x2) (pcN := 14) jI_289_13 rfl (jw_idd (by omega) (by omega)) rfl ?_
  refine jT_xlconst (z := 0) (pcN := 15) jI_289_14 rfl rfl ?_
  refine jT_adv 1 (pcN := 18) (LN := [(0, (4, 0)), (1, (0, x1)), (2, (0, x2))]) (stN := [(1, 15), (1, 0), (1, x2), (4, 0)]) (hsN := jpA_22) (c1 := 0) (s1 := 0) (c2 := 0) (s2 := 0) (by exact rfl) ?_ (by omega) (by omega)
  refine jT_fR [] 16 (y := 189) (pcN := 21) (dC := 0) (bc1 := 0) (bc2 := 0) (c1 := 0) (c2 := 0) (as := [(1, x2), (1, 0), (1, 15)]) (asC := [(1, x2), (1, 0), (1, 15)]) (LN := [(0, (4, 0)), (1, (0, x1)), (2, (0, x2))]) (stN := [(4, 0)]) (hsC := []) (v := (0, 0)) (st2 := [(0, 0), (4, 0)]) (jT_in_lo (d := 0) (v := x2) (lo := 0) (hi := 15) (by omega) (by omega) (by omega) (by omega)) (by rfl) (by rfl) (by decide +kernel) (by rfl) (by rfl) (by omega) (by omega) (by omega) (by omega) rfl ?_
  refine jT_xiconst (k := 2) (pcN := 22) jI_289_21 rfl ?_
  refine jT_fB [0, 1, 2, 3, 4, 5, 6, 7, 8, 9, 10, 11, 12, 13, 14, 15] 16 (y := 191) (pcN := 25) (dC := 0) (bc1 := 0) (bc2 := 0) (c1 := 0) (c2 := 0) (as := [(4, 0), (0, 0), (0, 2)]) (asC := [(4, 0), (0, 0), (0, 2)]) (LN := [(0, (4, 0)), (1, (0, x1)), (2, (0, x2))]) (stN := []) (hsC := jpA_22) (hsD := jpA_361) (v := (0, 1)) (st2 := [(0, 1)]) (hs2 := jpA_361) (jA_191_99 (d := 0)) (by rfl) (by rfl) (by decide +kernel) (by rfl) (by rfl) (by omega) (by omega) (by omega) (by omega) rfl (by decide +kernel) ?_
  refine jT_xifF (t := 30) (pcN := 28) jI_289_25 rfl (by decide +kernel) rfl rfl ?_
  refine jT_xlconst (z := 0) (pcN := 29) jI_289_28 rfl rfl ?_
  exact jT_ret rfl (by decide) (by show 16 ≤ 16; decide) (by omega) (by omega) ⟨rfl, rfl, rfl⟩
theorem jA_116_1128 {xs : List Int} {d : Nat} {x2 : Int} (h_x2 : 0 ≤ x2 ∧ x2 ≤ 15) : jT xs d 116 1 0 [(0, (4, 0)), (1, (0, x2)), (2, (0, 0)), (3, (0, 15))] [] [jgh] 0 0 (fun k v hsN => k = 0 ∧ v = (9, 0) ∧ hsN = [jgh] ++ []) := by
  refine jT_xiload_n (v := (0, x2)) (pcN := 1) jI_116_0 rfl rfl rfl ?_
  refine jT_xiload_n (v := (0, 0)) (pcN := 2) jI_116_1 rfl rfl rfl ?_
  refine jT_icF (a := x2) (b := 0) (t := 10) (by rfl) (by rfl) (by rfl) (jw_idd (by omega) (by omega)) (jw_idd (by omega) (by omega)) (by simp only [jcP] <;> omega) ?_
  refine jT_xiload_n (v := (0, x2)) (pcN := 6) jI_116_5 rfl rfl rfl ?_
  refine jT_xiload_n (v := (0, 15)) (pcN := 7) jI_116_6 rfl rfl rfl ?_
  refine jT_icT (a := x2) (b := 15) (t := 21) (by rfl) (by rfl) (by rfl) (jw_idd (by omega) (by omega)) (jw_idd (by omega) (by omega)) (by simp only [jcP] <;> omega) ?_
  exact jT_ret rfl (by decide) (by show 1 ≤ 1; decide) (by omega) (by omega) ⟨rfl, rfl, rfl⟩
theorem jA_38_1129 {xs : List Int} {d : Nat} : jT xs (d + 1) 38 4 0 [(0, (4, 0)), (1, (4, 1))] [] jpA_625 0 0 (fun k v hsN => k = 0 ∧ v = (0, 0) ∧ hsN = jpA_625 ++ []) := by
  refine jT_advK 2 (pcN := 2) (LN := [(0, (4, 0)), (1, (4, 1))]) (stN := [(4, 1), (4, 0)]) (hsN := jpA_625) (c1 := 0) (s1 := 0) (c2 := 0) (s2 := 0) (by decide +kernel) ?_ (by omega) (by omega)
  refine jT_fR [0, 1] 4 (y := 39) (pcN := 5) (dC := 0) (bc1 := 0) (bc2 := 0) (c1 := 0) (c2 := 0) (as := [(4, 0), (4, 1)]) (asC := [(4, 0), (4, 1)]) (LN := [(0, (4, 0)), (1, (4, 1))]) (stN := []) (hsC := [jgh, (101, [], [0, 0, 0, 0, 0, 0])]) (v := (1, 0)) (st2 := [(1, 0)]) (jA_39_144 (d := 0)) (by rfl) (by rfl) (by decide +kernel) (by rfl) (by rfl) (by omega) (by omega) (by omega) (by omega) rfl ?_
  refine jT_advK 9 (pcN := 16) (LN := [(2, (1, 0)), (0, (4, 0)), (1, (4, 1))]) (stN := [(1, 0), (1, 0)]) (hsN := jpA_625) (c1 := 0) (s1 := 0) (c2 := 0) (s2 := 0) (by decide +kernel) ?_ (by omega) (by omega)
  refine jT_fR [] 4 (y := 372) (pcN := 19) (dC := 0) (bc1 := 0) (bc2 := 0) (c1 := 0) (c2 := 0) (as := [(1, 0), (1, 0)]) (asC := [(1, 0), (1, 0)]) (LN := [(2, (1, 0)), (0, (4, 0)), (1, (4, 1))]) (stN := []) (hsC := []) (v := (0, 0)) (st2 := [(0, 0)]) (jA_372_324 (d := 0)) (by rfl) (by rfl) (by decide +kernel) (by rfl) (by rfl) (by omega) (by omega) (by omega) (by omega) rfl ?_
  exact jT_ret rfl (by decide) (by show 4 ≤ 4; decide) (by omega) (by omega) ⟨rfl, rfl, rfl⟩
theorem jI_157_15 : jmI (jm 157) 15 = (.aload_n 0, 1) := by rfl
theorem jI_157_16 : jmI (jm 157) 16 = (.getfield 67, 3) := by rfl
theorem jI_157_19 : jmI (jm 157) 19 = (.iload_n 1, 1) := by rfl
theorem jI_157_23 : jmI (jm 157) 23 = (.astore_n 3, 1) := by rfl
theorem jI_157_24 : jmI (jm 157) 24 = (.aload_n 0, 1) := by rfl
theorem jI_157_25 : jmI (jm 157) 25 = (.getfield 10, 3) := by rfl
theorem jI_157_28 : jmI (jm 157) 28 = (.aload_n 3, 1) := by rfl
theorem jI_157_29 : jmI (jm 157) 29 = (.getfield 209, 3) := by rfl
theorem jI_157_35 : jmI (jm 157) 35 = (.ifCond .gt 14, 3) := by rfl
def jpA_3958 : List JC := [jzA_5, (8, [(4, 12), (4, 13)], []), jgh, jgh, jgh, jgh, jgh, jgh, jgh, jgh, jgh, jzA_640, jgh, jgh, jzA_641, jgh, jgh, jgh, jgh, (4, [(4, 20), (1, 1)], []), (101, [], [0, 0, 0, 0, 0, 0])]
theorem jA_157_1130 {xs : List Int} {d : Nat} {x1 x2 : Int} (h_x1 : 0 ≤ x1 ∧ x1 ≤ 7) (h_x2 : 0 ≤ x2 ∧ x2 ≤ 15) : jT xs (d + 2) 157 21 0 [(0, (4, 0)), (1, (0, x1)), (2, (0, x2))] [] jpA_3958 1 6 (fun k v hsN => k = 1 ∧ v = (0, 2) ∧ hsN = jpA_3958 ++ []) := by
  refine jT_xaload_n (v := (4, 0)) (pcN := 1) jI_157_0 rfl rfl rfl ?_
  refine jT_xiload_n (v := (0, x1)) (pcN := 2) jI_157_1 rfl rfl rfl ?_
  refine jT_xbipush (k := 8) (pcN := 4) jI_157_2 (by decide) rfl ?_
  refine jT_fR [0] 21 (y := 115) (pcN := 7) (dC := 0) (bc1 := 0) (bc2 := 0) (c1 := 1) (c2 := 6) (as := [(4, 0), (0, x1), (0, 8)]) (asC := [(4, 0), (0, x1), (0, 8)]) (LN := [(0, (4, 0)), (1, (0, x1)), (2, (0, x2))]) (stN := []) (hsC := [jgh]) (v := (9, 0)) (st2 := []) (jA_115_9 (d := 0) (by omega)) (by rfl) (by rfl) (by decide +kernel) (by rfl) (by rfl) (by omega) (by omega) (by omega) (by omega) rfl ?_
  refine jT_xaload_n (v := (4, 0)) (pcN := 8) jI_157_7 rfl rfl rfl ?_
  refine jT_xiload_n (v := (0, x2)) (pcN := 9) jI_157_8 rfl rfl rfl ?_
  refine jT_xiconst (k := 0) (pcN := 10) jI_157_9 rfl ?_
  refine jT_xbipush (k := 15) (pcN := 12) jI_157_10 (by decide) rfl ?_
  refine jT_fR [0] 21 (y := 116) (pcN := 15) (dC := 0) (bc1 := 0) (bc2 := 0) (c1 := 1) (c2 := 6) (as := [(4, 0), (0, x2), (0, 0), (0, 15)]) (asC := [(4, 0), (0, x2), (0, 0), (0, 15)]) (LN := [(0, (4, 0)), (1, (0, x1)), (2, (0, x2))]) (stN := []) (hsC := [jgh]) (v := (9, 0)) (st2 := []) (jA_116_1128 (d := 0) (by omega)) (by rfl) (by rfl) (by decide +kernel) (by rfl) (by rfl) (by omega) (by omega) (by omega) (by omega) rfl ?_
  refine jT_xaload_n (v := (4, 0)) (pcN := 16) jI_157_15 rfl rfl rfl ?_
  refine jT_xgetf (a := 0) (t := 1) (ci := 13) (fi := 11) (c := jzA_5) (v := (4, 11)) (pcN := 19) jI_157_16 rfl rfl rfl rfl rfl rfl rfl ?_
  refine jT_xiload_n (v := (0, x1)) (pcN := 20) jI_157_19 rfl rfl rfl ?_
  refine jT_fR [11, 14, 15, 16, 17, 18, 19] 21 (y := 57) (pcN := 23) (dC := 0) (bc1 := 0) (bc2 := 0) (c1 := 1) (c2 := 6) (as := [(4, 11), (0, x1)]) (asC := [(4, 0), (0, x1)]) (LN := [(0, (4, 0)), (1, (0, x1)), (2, (0, x2))]) (stN := []) (hsC := jpA_47) (v := (4, 6)) (st2 := [(4, 19)]) (jA_57_108 (d := 0) (by omega)) (by rfl) (by rfl) (by decide +kernel) (by rfl) (by rfl) (by omega) (by omega) (by omega) (by omega) rfl ?_
  refine jT_xastore_n (v := (4, 19)) (LN := [(3, (4, 19)), (0, (4, 0)), (1, (0, x1)), (2, (0, x2))]) (pcN := 24) jI_157_23 rfl rfl rfl rfl ?_
  refine jT_xaload_n (v := (4, 0)) (pcN := 25) jI_157_24 rfl rfl rfl ?_
  refine jT_xgetf (a := 0) (t := 1) (ci := 13) (fi := 0) (c := jzA_5) (v := (4, 1)) (pcN := 28) jI_157_25 rfl rfl rfl rfl rfl rfl rfl ?_
  refine jT_xaload_n (v := (4, 19)) (pcN := 29) jI_157_28 rfl rfl rfl ?_
  refine jT_xgetf (a := 19) (t := 2) (ci := 4) (fi := 0) (c := (4, [(4, 20), (1, 1)], [])) (v := (4, 20)) (pcN := 32) jI_157_29 rfl rfl rfl rfl rfl rfl rfl ?_
  refine jT_fR [1, 20, 12, 13] 21 (y := 38) (pcN := 35) (dC := 1) (bc1 := 0) (bc2 := 0) (c1 := 1) (c2 := 6) (as := [(4, 1), (4, 20)]) (asC := [(4, 0), (4, 1)]) (LN := [(3, (4, 19)), (0, (4, 0)), (1, (0, x1)), (2, (0, x2))]) (stN := []) (hsC := jpA_625) (v := (0, 0)) (st2 := [(0, 0)]) (jA_38_1129 (d := 0)) (by rfl) (by rfl) (by decide +kernel) (by rfl) (by rfl) (by omega) (by omega) (by omega) (by omega) rfl ?_
  refine jT_xifF (t := 49) (pcN := 38) jI_157_35 rfl (by decide +kernel) rfl rfl ?_
  exact jT_ret (c1 := 1) (s1 := 6) rfl (by decide) (by show 21 ≤ 21; decide) (by omega) (by omega) ⟨rfl, rfl, rfl⟩
def jpA_3959 : List JC := [jzA_14, jgh, (8, [(4, 13), (4, 14)], []), jgh, jgh, jgh, jgh, jgh, jgh, jgh, jgh, jgh, jzA_659, jgh, jgh, jzA_660, jgh, jgh, jgh, jgh, (4, [(4, 21), (1, 1)], []), (101, [], [0, 0, 0, 0, 0, 0])]
theorem jA_359_1131 {xs : List Int} {d : Nat} {x1 x2 : Int} (h_x1 : 0 ≤ x1 ∧ x1 ≤ 7) (h_x2 : 0 ≤ x2 ∧ x2 ≤ 15) : jT xs (d + 3) 359 22 0 [(0, (4, 0)), (1, (0, x1)), (2, (0, x2)), (3, (4, 1))] [] jpA_3959 1 6 (fun k v hsN => k = 0 ∧ v = (0, 3) ∧ hsN = jpA_3959 ++ []) := by
  refine jT_xaload_n (v := (4, 1)) (pcN := 1) jI_359_0 rfl rfl rfl ?_
  refine jT_xiconst (k := 0) (pcN := 2) jI_359_1 rfl ?_
  refine jT_xaload_n (v := (4, 0)) (pcN := 3) jI_359_2 rfl rfl rfl ?_
  refine jT_xiload_n (v := (0, x1)) (pcN := 4) jI_359_3 rfl rfl rfl ?_
  refine jT_xiload_n (v := (0, x2)) (pcN := 5) jI_359_4 rfl rfl rfl ?_
  exact jT_fX [0, 2, 3, 4, 5, 6, 7, 8, 9, 10, 11, 12, 13, 14, 15, 16, 17, 18, 19, 20, 21] 22 (y := 157) (pcN := 8) (dC := 2) (bc1 := 1) (bc2 := 6) (as := [(4, 0), (0, x1), (0, x2)]) (asC := [(4, 0), (0, x1), (0, x2)]) (LN := [(0, (4, 0)), (1, (0, x1)), (2, (0, x2)), (3, (4, 1))]) (stN := [(0, 0), (4, 1)]) (hsC := jpA_3958) (e := 2) (jA_157_1130 (d := 0) (by omega) (by omega)) (by rfl) (by rfl) (by decide +kernel) (by rfl) (by rfl) (by omega) (by omega) (by omega) (by omega) (show _ from ⟨rfl, rfl, rfl⟩)
def jzA_3960 : JC := (14, [(0, 3), (4, 1), (4, 2), (4, 3), (4, 4), (0, 0), (4, 5), (0, 0), (4, 6), (4, 7), (1, 1), (4, 8), (0, 0), (4, 9), (0, 0), (0, 0), (0, 0), (0, 0), (0, 0), (0, 0), (0, 0), (4, 10), (4, 11), (4, 12), (4, 13), (4, 14), (4, 15), (0, 0)], [])
def jpA_3961 : List JC := [jzA_3960, jgh, jgh, jgh, jgh, jgh, jgh, jgh, jgh, jgh, jgh, jgh, jgh, jgh, jgh, jgh]
theorem jA_191_1132 {xs : List Int} {d : Nat} : jT xs d 191 16 0 [(0, (4, 0)), (1, (0, 0)), (2, (0, 3))] [] jpA_22 0 0 (fun k v hsN => k = 0 ∧ v = (0, 1) ∧ hsN = jpA_3961) := by
  refine jT_advK 9 (pcN := 18) (LN := [(0, (4, 0)), (1, (0, 0)), (2, (0, 3))]) (stN := [(0, 1)]) (hsN := jpA_3961) (c1 := 0) (s1 := 0) (c2 := 0) (s2 := 0) (by decide +kernel) ?_ (by omega) (by omega)
  exact jT_ret rfl (by decide) (by show 16 ≤ 16; decide) (by omega) (by omega) ⟨rfl, rfl, rfl⟩
theorem jI_289_30 : jmI (jm 289) 30 = (.aload_n 0, 1) := by rfl
theorem jI_289_31 : jmI (jm 289) 31 = (.iload_n 1, 1) := by rfl
theorem jI_289_35 : jmI (jm 289) 35 = (.aload_n 0, 1) := by rfl
theorem jI_289_36 : jmI (jm 289) 36 = (.aload_n 0, 1) := by rfl
theorem jI_289_37 : jmI (jm 289) 37 = (.aload_n 0, 1) := by rfl
theorem jI_289_38 : jmI (jm 289) 38 = (.getfield 31, 3) := by rfl
theorem jI_289_44 : jmI (jm 289) 44 = (.ifCond .le 7, 3) := by rfl
theorem jI_289_51 : jmI (jm 289) 51 = (.iconst 0, 1) := by rfl
theorem jI_289_52 : jmI (jm 289) 52 = (.iconst 3, 1) := by rfl
def jpA_3971 : List JC := [jzA_3960, (100, [], jS0), jgh, jgh, jgh, jgh, jgh, (101, [], [0, 0, 0, 0, 0, 0]), jgh, jgh, jgh, jgh, jgh, jgh, jgh, jgh]
theorem jI_289_56 : jmI (jm 289) 56 = (.ifCond .eq 5, 3) := by rfl
theorem jI_289_59 : jmI (jm 289) 59 = (.lconst 0, 1) := by rfl
theorem jA_289_1133 {xs : List Int} {d : Nat} {x1 x2 : Int} (h_x1 : 0 ≤ x1 ∧ x1 ≤ 7) (h_x2 : 0 ≤ x2 ∧ x2 ≤ 15) : jT xs (d + 2) 289 16 0 [(0, (4, 0)), (1, (0, x1)), (2, (0, x2))] [] jpA_130 0 0 (fun k v hsN => k = 0 ∧ v = (1, 0) ∧ hsN = jpA_3971) := by
  refine jT_xaload_n (v := (4, 0)) (pcN := 1) jI_289_0 rfl rfl rfl ?_
  refine jT_xiload_n (v := (0, x1)) (pcN := 2) jI_289_1 rfl rfl rfl ?_
  refine jT_fR [] 16 (y := 188) (pcN := 5) (dC := 1) (bc1 := 0) (bc2 := 0) (c1 := 0) (c2 := 0) (as := [(0, x1)]) (asC := [(0, x1)]) (LN := [(0, (4, 0)), (1, (0, x1)), (2, (0, x2))]) (stN := [(4, 0)]) (hsC := []) (v := (0, 1)) (st2 := [(0, 1), (4, 0)]) (jA_188_13 (d := 0) (by omega)) (by rfl) (by rfl) (by decide +kernel) (by rfl) (by rfl) (by omega) (by omega) (by omega) (by omega) rfl ?_
  refine jT_fR [0, 1, 2, 3, 4, 5, 6, 7, 8, 9, 10, 11, 12, 13, 14, 15] 16 (y := 190) (pcN := 8) (dC := 1) (bc1 := 0) (bc2 := 0) (c1 := 0) (c2 := 0) (as := [(4, 0), (0, 1)]) (asC := [(4, 0), (0, 1)]) (LN := [(0, (4, 0)), (1, (0, x1)), (2, (0, x2))]) (stN := []) (hsC := jpA_22) (v := (0, 0)) (st2 := [(0, 0)]) (jA_190_39 (d := 0)) (by rfl) (by rfl) (by decide +kernel) (by rfl) (by rfl) (by omega) (by omega) (by omega) (by omega) rfl ?_
  refine jT_xifF (t := 28) (pcN := 11) jI_289_8 rfl (by decide +kernel) rfl rfl ?_
  refine jT_xaload_n (v := (4, 0)) (pcN := 12) jI_289_11 rfl rfl rfl ?_
  refine jT_xiload_n (v := (0, x2)) (pcN := 13) jI_289_12 rfl rfl rfl ?_
  refine jT_xi2l (x := x2) (z := x2) (pcN := 14) jI_289_13 rfl (jw_idd (by omega) (by omega)) rfl ?_
  refine jT_xlconst (z := 0) (pcN := 15) jI_289_14 rfl rfl ?_
  refine jT_adv 1 (pcN := 18) (LN := [(0, (4, 0)), (1, (0, x1)), (2, (0, x2))]) (stN := [(1, 15), (1, 0), (1, x2), (4, 0)]) (hsN := jpA_130) (c1 := 0) (s1 := 0) (c2 := 0) (s2 := 0) (by exact rfl) ?_ (by omega) (by omega)
  refine jT_fR [] 16 (y := 189) (pcN := 21) (dC := 0) (bc1 := 0) (bc2 := 0) (c1 := 0) (c2 := 0) (as := [(1, x2), (1, 0), (1, 15)]) (asC := [(1, x2), (1, 0), (1, 15)]) (LN := [(0, (4, 0)), (1, (0, x1)), (2, (0, x2))]) (stN := [(4, 0)]) (hsC := []) (v := (0, 1)) (st2 := [(0, 1), (4, 0)]) (jT_in_ok (d := 0) (v := x2) (lo := 0) (hi := 15) (by omega) (by omega) (by omega) (by omega) (by omega)) (by rfl) (by rfl) (by decide +kernel) (by rfl) (by rfl) (by omega) (by omega) (by omega) (by omega) rfl ?_
  refine jT_xiconst (k := 2) (pcN := 22) jI_289_21 rfl ?_
  refine jT_fR [0] 16 (y := 191) (pcN := 25) (dC := 0) (bc1 := 0) (bc2 := 0) (c1 := 0) (c2 := 0) (as := [(4, 0), (0, 1), (0, 2)]) (asC := [(4, 0), (0, 1), (0, 2)]) (LN := [(0, (4, 0)), (1, (0, x1)), (2, (0, x2))]) (stN := []) (hsC := [jgh]) (v := (0, 0)) (st2 := [(0, 0)]) (jA_191_49 (d := 0)) (by rfl) (by rfl) (by decide +kernel) (by rfl) (by rfl) (by omega) (by omega) (by omega) (by omega) rfl ?_
  refine jT_xifT (pcN := 30) jI_289_25 rfl (by decide +kernel) rfl ?_
  refine jT_xaload_n (v := (4, 0)) (pcN := 31) jI_289_30 rfl rfl rfl ?_
  refine jT_xiload_n (v := (0, x1)) (pcN := 32) jI_289_31 rfl rfl rfl ?_
  refine jT_fR [0, 1, 2, 3, 4, 5, 6, 7, 8, 9, 10, 11, 12, 13, 14, 15] 16 (y := 202) (pcN := 35) (dC := 1) (bc1 := 0) (bc2 := 0) (c1 := 0) (c2 := 0) (as := [(4, 0), (0, x1)]) (asC := [(4, 0), (0, x1)]) (LN := [(0, (4, 0)), (1, (0, x1)), (2, (0, x2))]) (stN := []) (hsC := jpA_130) (v := (9, 0)) (st2 := []) (jA_202_115 (d := 0) (by omega)) (by rfl) (by rfl) (by decide +kernel) (by rfl) (by rfl) (by omega) (by omega) (by omega) (by omega) rfl ?_
  refine jT_xaload_n (v := (4, 0)) (pcN := 36) jI_289_35 rfl rfl rfl ?_
  refine jT_xaload_n (v := (4, 0)) (pcN := 37) jI_289_36 rfl rfl rfl ?_
  refine jT_xaload_n (v := (4, 0)) (pcN := 38) jI_289_37 rfl rfl rfl ?_
  refine jT_xgetf (a := 0) (t := 1) (ci := 14) (fi := 9) (c := jzA_21) (v := (4, 7)) (pcN := 41) jI_289_38 rfl rfl rfl rfl rfl rfl rfl ?_
  refine jT_fR [0, 7] 16 (y := 213) (pcN := 44) (dC := 1) (bc1 := 0) (bc2 := 0) (c1 := 0) (c2 := 0) (as := [(4, 0), (4, 7)]) (asC := [(4, 0), (4, 1)]) (LN := [(0, (4, 0)), (1, (0, x1)), (2, (0, x2))]) (stN := [(4, 0)]) (hsC := [jgh, (101, [], [0, 0, 0, 0, 0, 0])]) (v := (0, 0)) (st2 := [(0, 0), (4, 0)]) (jA_213_152 (d := 0)) (by rfl) (by rfl) (by decide +kernel) (by rfl) (by rfl) (by omega) (by omega) (by omega) (by omega) rfl ?_
  refine jT_xifT (pcN := 51) jI_289_44 rfl (by decide +kernel) rfl ?_
  refine jT_xiconst (k := 0) (pcN := 52) jI_289_51 rfl ?_
  refine jT_xiconst (k := 3) (pcN := 53) jI_289_52 rfl ?_
  refine jT_fB [0, 1, 2, 3, 4, 5, 6, 7, 8, 9, 10, 11, 12, 13, 14, 15] 16 (y := 191) (pcN := 56) (dC := 0) (bc1 := 0) (bc2 := 0) (c1 := 0) (c2 := 0) (as := [(4, 0), (0, 0), (0, 3)]) (asC := [(4, 0), (0, 0), (0, 3)]) (LN := [(0, (4, 0)), (1, (0, x1)), (2, (0, x2))]) (stN := []) (hsC := jpA_22) (hsD := jpA_3961) (v := (0, 1)) (st2 := [(0, 1)]) (hs2 := jpA_3971) (jA_191_1132 (d := 0)) (by rfl) (by rfl) (by decide +kernel) (by rfl) (by rfl) (by omega) (by omega) (by omega) (by omega) rfl (by decide +kernel) ?_
  refine jT_xifF (t := 61) (pcN := 59) jI_289_56 rfl (by decide +kernel) rfl rfl ?_
  refine jT_xlconst (z := 0) (pcN := 60) jI_289_59 rfl rfl ?_
  exact jT_ret rfl (by decide) (by show 16 ≤ 16; decide) (by omega) (by omega) ⟨rfl, rfl, rfl⟩
theorem jA_186_1134 {xs : List Int} {d : Nat} : jT xs d 186 16 0 [(0, (4, 0))] [] jpA_3961 0 0 (fun k v hsN => k = 0 ∧ v = (0, 3) ∧ hsN = jpA_3961 ++ []) := by
  refine jT_advK 2 (pcN := 4) (LN := [(0, (4, 0))]) (stN := [(0, 3)]) (hsN := jpA_3961) (c1 := 0) (s1 := 0) (c2 := 0) (s2 := 0) (by decide +kernel) ?_ (by omega) (by omega)
  exact jT_ret rfl (by decide) (by show 16 ≤ 16; decide) (by omega) (by omega) ⟨rfl, rfl, rfl⟩
theorem jA_116_1135 {xs : List Int} {d : Nat} {x2 : Int} (h_x2 : 16 ≤ x2 ∧ x2 ≤ 2147483647) : jT xs d 116 1 0 [(0, (4, 0)), (1, (0, x2)), (2, (0, 0)), (3, (0, 15))] [] [jgh] 1 6 (fun k v hsN => k = 1 ∧ v = (0, 1) ∧ hsN = [jgh] ++ []) := by
  refine jT_xiload_n (v := (0, x2)) (pcN := 1) jI_116_0 rfl rfl rfl ?_
  refine jT_xiload_n (v := (0, 0)) (pcN := 2) jI_116_1 rfl rfl rfl ?_
  refine jT_icF (a := x2) (b := 0) (t := 10) (by rfl) (by rfl) (by rfl) (jw_idd (by omega) (by omega)) (jw_idd (by omega) (by omega)) (by simp only [jcP] <;> omega) ?_
  refine jT_xiload_n (v := (0, x2)) (pcN := 6) jI_116_5 rfl rfl rfl ?_
  refine jT_xiload_n (v := (0, 15)) (pcN := 7) jI_116_6 rfl rfl rfl ?_
  refine jT_icF (a := x2) (b := 15) (t := 21) (by rfl) (by rfl) (by rfl) (jw_idd (by omega) (by omega)) (jw_idd (by omega) (by omega)) (by simp only [jcP] <;> omega) ?_
  exact jT_ret (c1 := 1) (s1 := 6) rfl (by decide) (by show 1 ≤ 1; decide) (by omega) (by omega) ⟨rfl, rfl, rfl⟩
theorem jA_157_1136 {xs : List Int} {d : Nat} {x1 x2 : Int} (h_x1 : 0 ≤ x1 ∧ x1 ≤ 7) (h_x2 : 16 ≤ x2 ∧ x2 ≤ 2147483647) : jT xs (d + 1) 157 12 0 [(0, (4, 0)), (1, (0, x1)), (2, (0, x2))] [] jpA_6 1 6 (fun k v hsN => k = 1 ∧ v = (0, 1) ∧ hsN = jpA_6 ++ []) := by
  refine jT_xaload_n (v := (4, 0)) (pcN := 1) jI_157_0 rfl rfl rfl ?_
  refine jT_xiload_n (v := (0, x1)) (pcN := 2) jI_157_1 rfl rfl rfl ?_
  refine jT_xbipush (k := 8) (pcN := 4) jI_157_2 (by decide) rfl ?_
  refine jT_fR [0] 12 (y := 115) (pcN := 7) (dC := 0) (bc1 := 0) (bc2 := 0) (c1 := 1) (c2 := 6) (as := [(4, 0), (0, x1), (0, 8)]) (asC := [(4, 0), (0, x1), (0, 8)]) (LN := [(0, (4, 0)), (1, (0, x1)), (2, (0, x2))]) (stN := []) (hsC := [jgh]) (v := (9, 0)) (st2 := []) (jA_115_9 (d := 0) (by omega)) (by rfl) (by rfl) (by decide +kernel) (by rfl) (by rfl) (by omega) (by omega) (by omega) (by omega) rfl ?_
  refine jT_xaload_n (v := (4, 0)) (pcN := 8) jI_157_7 rfl rfl rfl ?_
  refine jT_xiload_n (v := (0, x2)) (pcN := 9) jI_157_8 rfl rfl rfl ?_
  refine jT_xiconst (k := 0) (pcN := 10) jI_157_9 rfl ?_
  refine jT_xbipush (k := 15) (pcN := 12) jI_157_10 (by decide) rfl ?_
  exact jT_fX [0] 12 (y := 116) (pcN := 15) (dC := 0) (bc1 := 1) (bc2 := 6) (as := [(4, 0), (0, x2), (0, 0), (0, 15)]) (asC := [(4, 0), (0, x2), (0, 0), (0, 15)]) (LN := [(0, (4, 0)), (1, (0, x1)), (2, (0, x2))]) (stN := []) (hsC := [jgh]) (e := 1) (jA_116_1135 (d := 0) (by omega)) (by rfl) (by rfl) (by decide +kernel) (by rfl) (by rfl) (by omega) (by omega) (by omega) (by omega) ⟨rfl, ⟨rfl, rfl, rfl⟩⟩
theorem jA_359_1137 {xs : List Int} {d : Nat} {x1 x2 : Int} (h_x1 : 0 ≤ x1 ∧ x1 ≤ 7) (h_x2 : 16 ≤ x2 ∧ x2 ≤ 2147483647) : jT xs (d + 2) 359 13 0 [(0, (4, 0)), (1, (0, x1)), (2, (0, x2)), (3, (4, 1))] [] jpA_15 1 6 (fun k v hsN => k = 0 ∧ v = (0, 2) ∧ hsN = jpA_15 ++ []) := by
  refine jT_xaload_n (v := (4, 1)) (pcN := 1) jI_359_0 rfl rfl rfl ?_
  refine jT_xiconst (k := 0) (pcN := 2) jI_359_1 rfl ?_
  refine jT_xaload_n (v := (4, 0)) (pcN := 3) jI_359_2 rfl rfl rfl ?_
  refine jT_xiload_n (v := (0, x1)) (pcN := 4) jI_359_3 rfl rfl rfl ?_
  refine jT_xiload_n (v := (0, x2)) (pcN := 5) jI_359_4 rfl rfl rfl ?_
  exact jT_fX [0, 2, 3, 4, 5, 6, 7, 8, 9, 10, 11, 12] 13 (y := 157) (pcN := 8) (dC := 1) (bc1 := 1) (bc2 := 6) (as := [(4, 0), (0, x1), (0, x2)]) (asC := [(4, 0), (0, x1), (0, x2)]) (LN := [(0, (4, 0)), (1, (0, x1)), (2, (0, x2)), (3, (4, 1))]) (stN := [(0, 0), (4, 1)]) (hsC := jpA_6) (e := 1) (jA_157_1136 (d := 0) (by omega) (by omega)) (by rfl) (by rfl) (by decide +kernel) (by rfl) (by rfl) (by omega) (by omega) (by omega) (by omega) (show _ from ⟨rfl, rfl, rfl⟩)
theorem jA_289_1138 {xs : List Int} {d : Nat} {x1 x2 : Int} (h_x1 : 0 ≤ x1 ∧ x1 ≤ 7) (h_x2 : 16 ≤ x2 ∧ x2 ≤ 2147483647) : jT xs (d + 2) 289 16 0 [(0, (4, 0)), (1, (0, x1)), (2, (0, x2))] [] jpA_22 0 0 (fun k v hsN => k = 0 ∧ v = (1, 0) ∧ hsN = jpA_361) := by
  refine jT_xaload_n (v := (4, 0)) (pcN := 1) jI_289_0 rfl rfl rfl ?_
  refine jT_xiload_n (v := (0, x1)) (pcN := 2) jI_289_1 rfl rfl rfl ?_
  refine jT_fR [] 16 (y := 188) (pcN := 5) (dC := 1) (bc1 := 0) (bc2 := 0) (c1 := 0) (c2 := 0) (as := [(0, x1)]) (asC := [(0, x1)]) (LN := [(0, (4, 0)), (1, (0, x1)), (2, (0, x2))]) (stN := [(4, 0)]) (hsC := []) (v := (0, 1)) (st2 := [(0, 1), (4, 0)]) (jA_188_13 (d := 0) (by omega)) (by rfl) (by rfl) (by decide +kernel) (by rfl) (by rfl) (by omega) (by omega) (by omega) (by omega) rfl ?_
  refine jT_fR [0, 1, 2, 3, 4, 5, 6, 7, 8, 9, 10, 11, 12, 13, 14, 15] 16 (y := 190) (pcN := 8) (dC := 1) (bc1 := 0) (bc2 := 0) (c1 := 0) (c2 := 0) (as := [(4, 0), (0, 1)]) (asC := [(4, 0), (0, 1)]) (LN := [(0, (4, 0)), (1, (0, x1)), (2, (0, x2))]) (stN := []) (hsC := jpA_22) (v := (0, 0)) (st2 := [(0, 0)]) (jA_190_39 (d := 0)) (by rfl) (by rfl) (by decide +kernel) (by rfl) (by rfl) (by omega) (by omega) (by omega) (by omega) rfl ?_
  refine jT_xifF (t := 28) (pcN := 11) jI_289_8 rfl (by decide +kernel) rfl rfl ?_
  refine jT_xaload_n (v := (4, 0)) (pcN := 12) jI_289_11 rfl rfl rfl ?_
  refine jT_xiload_n (v := (0, x2)) (pcN := 13) jI_289_12 rfl rfl rfl ?_
  refine jT_xi2l (x := x2) (z := x2) (pcN := 14) jI_289_13 rfl (jw_idd (by omega) (by omega)) rfl ?_
  refine jT_xlconst (z := 0) (pcN := 15) jI_289_14 rfl rfl ?_
  refine jT_adv 1 (pcN := 18) (LN := [(0, (4, 0)), (1, (0, x1)), (2, (0, x2))]) (stN := [(1, 15), (1, 0), (1, x2), (4, 0)]) (hsN := jpA_22) (c1 := 0) (s1 := 0) (c2 := 0) (s2 := 0) (by exact rfl) ?_ (by omega) (by omega)
  refine jT_fR [] 16 (y := 189) (pcN := 21) (dC := 0) (bc1 := 0) (bc2 := 0) (c1 := 0) (c2 := 0) (as := [(1, x2), (1, 0), (1, 15)]) (asC := [(1, x2), (1, 0), (1, 15)]) (LN := [(0, (4, 0)), (1, (0, x1)), (2, (0, x2))]) (stN := [(4, 0)]) (hsC := []) (v := (0, 0)) (st2 := [(0, 0), (4, 0)]) (jT_in_hi (d := 0) (v := x2) (lo := 0) (hi := 15) (by omega) (by omega) (by omega) (by omega) (by omega)) (by rfl) (by rfl) (by decide +kernel) (by rfl) (by rfl) (by omega) (by omega) (by omega) (by omega) rfl ?_
  refine jT_xiconst (k := 2) (pcN := 22) jI_289_21 rfl ?_
  refine jT_fB [0, 1, 2, 3, 4, 5, 6, 7, 8, 9, 10, 11, 12, 13, 14, 15] 16 (y := 191) (pcN := 25) (dC := 0) (bc1 := 0) (bc2 := 0) (c1 := 0) (c2 := 0) (as := [(4, 0), (0, 0), (0, 2)]) (asC := [(4, 0), (0, 0), (0, 2)]) (LN := [(0, (4, 0)), (1, (0, x1)), (2, (0, x2))]) (stN := []) (hsC := jpA_22) (hsD := jpA_361) (v := (0, 1)) (st2 := [(0, 1)]) (hs2 := jpA_361) (jA_191_99 (d := 0)) (by rfl) (by rfl) (by decide +kernel) (by rfl) (by rfl) (by omega) (by omega) (by omega) (by omega) rfl (by decide +kernel) ?_
  refine jT_xifF (t := 30) (pcN := 28) jI_289_25 rfl (by decide +kernel) rfl rfl ?_
  refine jT_xlconst (z := 0) (pcN := 29) jI_289_28 rfl rfl ?_
  exact jT_ret rfl (by decide) (by show 16 ≤ 16; decide) (by omega) (by omega) ⟨rfl, rfl, rfl⟩
theorem jA_157_1139 {xs : List Int} {d : Nat} {x1 x2 : Int} (h_x1 : 8 ≤ x1 ∧ x1 ≤ 2147483647) (h_x2 : (-2147483648) ≤ x2 ∧ x2 ≤ 2147483647) : jT xs (d + 1) 157 12 0 [(0, (4, 0)), (1, (0, x1)), (2, (0, x2))] [] jpA_6 1 6 (fun k v hsN => k = 1 ∧ v = (0, 0) ∧ hsN = jpA_6 ++ []) := by
  refine jT_xaload_n (v := (4, 0)) (pcN := 1) jI_157_0 rfl rfl rfl ?_
  refine jT_xiload_n (v := (0, x1)) (pcN := 2) jI_157_1 rfl rfl rfl ?_
  refine jT_xbipush (k := 8) (pcN := 4) jI_157_2 (by decide) rfl ?_
  exact jT_fX [0] 12 (y := 115) (pcN := 7) (dC := 0) (bc1 := 1) (bc2 := 6) (as := [(4, 0), (0, x1), (0, 8)]) (asC := [(4, 0), (0, x1), (0, 8)]) (LN := [(0, (4, 0)), (1, (0, x1)), (2, (0, x2))]) (stN := []) (hsC := [jgh]) (e := 0) (jA_115_65 (d := 0) (by omega)) (by rfl) (by rfl) (by decide +kernel) (by rfl) (by rfl) (by omega) (by omega) (by omega) (by omega) ⟨rfl, ⟨rfl, rfl, rfl⟩⟩
theorem jA_359_1140 {xs : List Int} {d : Nat} {x1 x2 : Int} (h_x1 : 8 ≤ x1 ∧ x1 ≤ 2147483647) (h_x2 : (-2147483648) ≤ x2 ∧ x2 ≤ 2147483647) : jT xs (d + 2) 359 13 0 [(0, (4, 0)), (1, (0, x1)), (2, (0, x2)), (3, (4, 1))] [] jpA_15 1 6 (fun k v hsN => k = 0 ∧ v = (0, 1) ∧ hsN = jpA_15 ++ []) := by
  refine jT_xaload_n (v := (4, 1)) (pcN := 1) jI_359_0 rfl rfl rfl ?_
  refine jT_xiconst (k := 0) (pcN := 2) jI_359_1 rfl ?_
  refine jT_xaload_n (v := (4, 0)) (pcN := 3) jI_359_2 rfl rfl rfl ?_
  refine jT_xiload_n (v := (0, x1)) (pcN := 4) jI_359_3 rfl rfl rfl ?_
  refine jT_xiload_n (v := (0, x2)) (pcN := 5) jI_359_4 rfl rfl rfl ?_
  exact jT_fX [0, 2, 3, 4, 5, 6, 7, 8, 9, 10, 11, 12] 13 (y := 157) (pcN := 8) (dC := 1) (bc1 := 1) (bc2 := 6) (as := [(4, 0), (0, x1), (0, x2)]) (asC := [(4, 0), (0, x1), (0, x2)]) (LN := [(0, (4, 0)), (1, (0, x1)), (2, (0, x2)), (3, (4, 1))]) (stN := [(0, 0), (4, 1)]) (hsC := jpA_6) (e := 0) (jA_157_1139 (d := 0) (by omega) (by omega)) (by rfl) (by rfl) (by decide +kernel) (by rfl) (by rfl) (by omega) (by omega) (by omega) (by omega) (show _ from ⟨rfl, rfl, rfl⟩)
theorem jA_289_1141 {xs : List Int} {d : Nat} {x1 x2 : Int} (h_x1 : 8 ≤ x1 ∧ x1 ≤ 2147483647) (h_x2 : (-2147483648) ≤ x2 ∧ x2 ≤ 2147483647) : jT xs (d + 2) 289 16 0 [(0, (4, 0)), (1, (0, x1)), (2, (0, x2))] [] jpA_22 0 0 (fun k v hsN => k = 0 ∧ v = (1, 0) ∧ hsN = jpA_20) := by
  refine jT_xaload_n (v := (4, 0)) (pcN := 1) jI_289_0 rfl rfl rfl ?_
  refine jT_xiload_n (v := (0, x1)) (pcN := 2) jI_289_1 rfl rfl rfl ?_
  refine jT_fR [] 16 (y := 188) (pcN := 5) (dC := 1) (bc1 := 0) (bc2 := 0) (c1 := 0) (c2 := 0) (as := [(0, x1)]) (asC := [(0, x1)]) (LN := [(0, (4, 0)), (1, (0, x1)), (2, (0, x2))]) (stN := [(4, 0)]) (hsC := []) (v := (0, 0)) (st2 := [(0, 0), (4, 0)]) (jA_188_68 (d := 0) (by omega)) (by rfl) (by rfl) (by decide +kernel) (by rfl) (by rfl) (by omega) (by omega) (by omega) (by omega) rfl ?_
  refine jT_fB [0, 1, 2, 3, 4, 5, 6, 7, 8, 9, 10, 11, 12, 13, 14, 15] 16 (y := 190) (pcN := 8) (dC := 1) (bc1 := 0) (bc2 := 0) (c1 := 0) (c2 := 0) (as := [(4, 0), (0, 0)]) (asC := [(4, 0), (0, 0)]) (LN := [(0, (4, 0)), (1, (0, x1)), (2, (0, x2))]) (stN := []) (hsC := jpA_22) (hsD := jpA_20) (v := (0, 1)) (st2 := [(0, 1)]) (hs2 := jpA_20) (jA_190_6 (d := 0)) (by rfl) (by rfl) (by decide +kernel) (by rfl) (by rfl) (by omega) (by omega) (by omega) (by omega) rfl (by decide +kernel) ?_
  refine jT_xifT (pcN := 28) jI_289_8 rfl (by decide +kernel) rfl ?_
  refine jT_xlconst (z := 0) (pcN := 29) jI_289_28 rfl rfl ?_
  exact jT_ret rfl (by decide) (by show 16 ≤ 16; decide) (by omega) (by omega) ⟨rfl, rfl, rfl⟩
theorem jI_379_2678 : jmI (jm 379) 2678 = (.aload_n 1, 1) := by rfl
theorem jI_379_2679 : jmI (jm 379) 2679 = (.aload_n 0, 1) := by rfl
theorem jI_379_2680 : jmI (jm 379) 2680 = (.iload 5, 2) := by rfl
theorem jI_379_2682 : jmI (jm 379) 2682 = (.iconst 1, 1) := by rfl
theorem jI_379_2683 : jmI (jm 379) 2683 = (.iadd, 1) := by rfl
theorem jI_379_2685 : jmI (jm 379) 2685 = (.aload_n 0, 1) := by rfl
theorem jI_379_2686 : jmI (jm 379) 2686 = (.iload 5, 2) := by rfl
theorem jI_379_2688 : jmI (jm 379) 2688 = (.iconst 2, 1) := by rfl
theorem jI_379_2689 : jmI (jm 379) 2689 = (.iadd, 1) := by rfl
theorem jI_379_2691 : jmI (jm 379) 2691 = (.aload_n 3, 1) := by rfl
theorem jI_379_2695 : jmI (jm 379) 2695 = (.istore 6, 2) := by rfl
theorem jI_379_2697 : jmI (jm 379) 2697 = (.aload_n 2, 1) := by rfl
theorem jI_379_2698 : jmI (jm 379) 2698 = (.aload_n 0, 1) := by rfl
theorem jI_379_2699 : jmI (jm 379) 2699 = (.iload 5, 2) := by rfl
theorem jI_379_2701 : jmI (jm 379) 2701 = (.iconst 1, 1) := by rfl
theorem jI_379_2702 : jmI (jm 379) 2702 = (.iadd, 1) := by rfl
theorem jI_379_2704 : jmI (jm 379) 2704 = (.aload_n 0, 1) := by rfl
theorem jI_379_2705 : jmI (jm 379) 2705 = (.iload 5, 2) := by rfl
theorem jI_379_2707 : jmI (jm 379) 2707 = (.iconst 2, 1) := by rfl
theorem jI_379_2708 : jmI (jm 379) 2708 = (.iadd, 1) := by rfl
theorem jI_379_2713 : jmI (jm 379) 2713 = (.lstore 7, 2) := by rfl
theorem jI_379_2715 : jmI (jm 379) 2715 = (.aload_n 2, 1) := by rfl
theorem jI_379_2719 : jmI (jm 379) 2719 = (.iload 6, 2) := by rfl
theorem jI_379_2721 : jmI (jm 379) 2721 = (.if_icmp .eq 5, 3) := by rfl
theorem jI_379_2726 : jmI (jm 379) 2726 = (.iload 6, 2) := by rfl
theorem jI_379_2728 : jmI (jm 379) 2728 = (.ifCond .ne 14, 3) := by rfl
theorem jI_379_2742 : jmI (jm 379) 2742 = (.goto 998, 3) := by rfl
set_option maxRecDepth 100000 in
theorem jL_35_0 {d : Nat} {x0 x1 x2 x3 x4 : Int} (h_x0 : (-2147483648) ≤ x0 ∧ x0 ≤ 2147483647) (h_x1 : (-2147483648) ≤ x1 ∧ x1 ≤ (-1)) (h_x2 : (-2147483648) ≤ x2 ∧ x2 ≤ 2147483647) (h_x3 : (-2147483648) ≤ x3 ∧ x3 ≤ 2147483647) (h_x4 : (-2147483648) ≤ x4 ∧ x4 ≤ 2147483647) : jT [x0, x1, x2, x3, x4] (d + 3) 379 30 2678 [(5, (0, 0)), (4, (4, 3)), (3, (4, 2)), (2, (4, 1)), (1, (4, 0)), (0, (6, 0))] [] jpA_267 1 6 (fun k v hsN => k = 0 ∧ v = (0, 1)) := by
  refine jT_xaload_n (v := (4, 0)) (pcN := 2679) jI_379_2678 rfl rfl rfl ?_
  refine jT_xaload_n (v := (6, 0)) (pcN := 2680) jI_379_2679 rfl rfl rfl ?_
  refine jT_xiload (v := (0, 0)) (pcN := 2682) jI_379_2680 rfl rfl rfl ?_
  refine jT_xiconst (k := 1) (pcN := 2683) jI_379_2682 rfl ?_
  refine jT_xiadd (x := 0) (y := 1) (z := 1) (pcN := 2684) jI_379_2683 rfl (by decide) rfl ?_
  refine jT_adv 1 (pcN := 2685) (LN := [(5, (0, 0)), (4, (4, 3)), (3, (4, 2)), (2, (4, 1)), (1, (4, 0)), (0, (6, 0))]) (stN := [(0, x1), (4, 0)]) (hsN := jpA_267) (c1 := 0) (s1 := 0) (c2 := 1) (s2 := 6) (by exact rfl) ?_ (by omega) (by omega)
  refine jT_xaload_n (v := (6, 0)) (pcN := 2686) jI_379_2685 rfl rfl rfl ?_
  refine jT_xiload (v := (0, 0)) (pcN := 2688) jI_379_2686 rfl rfl rfl ?_
  refine jT_xiconst (k := 2) (pcN := 2689) jI_379_2688 rfl ?_
  refine jT_xiadd (x := 0) (y := 2) (z := 2) (pcN := 2690) jI_379_2689 rfl (by decide) rfl ?_
  refine jT_adv 1 (pcN := 2691) (LN := [(5, (0, 0)), (4, (4, 3)), (3, (4, 2)), (2, (4, 1)), (1, (4, 0)), (0, (6, 0))]) (stN := [(0, x2), (0, x1), (4, 0)]) (hsN := jpA_267) (c1 := 0) (s1 := 0) (c2 := 1) (s2 := 6) (by exact rfl) ?_ (by omega) (by omega)
  refine jT_xaload_n (v := (4, 2)) (pcN := 2692) jI_379_2691 rfl rfl rfl ?_
  refine jT_fR [0, 2, 4, 5, 6, 7, 8, 9, 10, 11, 12, 13, 14] 30 (y := 359) (pcN := 2695) (dC := 2) (bc1 := 1) (bc2 := 6) (c1 := 0) (c2 := 0) (as := [(4, 0), (0, x1), (0, x2), (4, 2)]) (asC := [(4, 0), (0, x1), (0, x2), (4, 1)]) (LN := [(5, (0, 0)), (4, (4, 3)), (3, (4, 2)), (2, (4, 1)), (1, (4, 0)), (0, (6, 0))]) (stN := []) (hsC := jpA_15) (v := (0, 1)) (st2 := [(0, 1)]) (jA_359_1122 (d := 0) (by omega) (by omega)) (by rfl) (by rfl) (by decide +kernel) (by rfl) (by rfl) (by omega) (by omega) (by omega) (by omega) rfl ?_
  refine jT_xistore (v := (0, 1)) (LN := [(6, (0, 1)), (5, (0, 0)), (4, (4, 3)), (3, (4, 2)), (2, (4, 1)), (1, (4, 0)), (0, (6, 0))]) (pcN := 2697) jI_379_2695 rfl rfl rfl rfl ?_
  refine jT_xaload_n (v := (4, 1)) (pcN := 2698) jI_379_2697 rfl rfl rfl ?_
  refine jT_xaload_n (v := (6, 0)) (pcN := 2699) jI_379_2698 rfl rfl rfl ?_
  refine jT_xiload (v := (0, 0)) (pcN := 2701) jI_379_2699 rfl rfl rfl ?_
  refine jT_xiconst (k := 1) (pcN := 2702) jI_379_2701 rfl ?_
  refine jT_xiadd (x := 0) (y := 1) (z := 1) (pcN := 2703) jI_379_2702 rfl (by decide) rfl ?_
  refine jT_adv 1 (pcN := 2704) (LN := [(6, (0, 1)), (5, (0, 0)), (4, (4, 3)), (3, (4, 2)), (2, (4, 1)), (1, (4, 0)), (0, (6, 0))]) (stN := [(0, x1), (4, 1)]) (hsN := jpA_267) (c1 := 0) (s1 := 0) (c2 := 0) (s2 := 0) (by exact rfl) ?_ (by omega) (by omega)
  refine jT_xaload_n (v := (6, 0)) (pcN := 2705) jI_379_2704 rfl rfl rfl ?_
  refine jT_xiload (v := (0, 0)) (pcN := 2707) jI_379_2705 rfl rfl rfl ?_
  refine jT_xiconst (k := 2) (pcN := 2708) jI_379_2707 rfl ?_
  refine jT_xiadd (x := 0) (y := 2) (z := 2) (pcN := 2709) jI_379_2708 rfl (by decide) rfl ?_
  refine jT_adv 1 (pcN := 2710) (LN := [(6, (0, 1)), (5, (0, 0)), (4, (4, 3)), (3, (4, 2)), (2, (4, 1)), (1, (4, 0)), (0, (6, 0))]) (stN := [(0, x2), (0, x1), (4, 1)]) (hsN := jpA_267) (c1 := 0) (s1 := 0) (c2 := 0) (s2 := 0) (by exact rfl) ?_ (by omega) (by omega)
  refine jT_fB [1, 15, 16, 17, 18, 19, 20, 21, 22, 23, 24, 25, 26, 27, 28, 29] 30 (y := 289) (pcN := 2713) (dC := 2) (bc1 := 0) (bc2 := 0) (c1 := 0) (c2 := 0) (as := [(4, 1), (0, x1), (0, x2)]) (asC := [(4, 0), (0, x1), (0, x2)]) (LN := [(6, (0, 1)), (5, (0, 0)), (4, (4, 3)), (3, (4, 2)), (2, (4, 1)), (1, (4, 0)), (0, (6, 0))]) (stN := []) (hsC := jpA_22) (hsD := jpA_20) (v := (1, 0)) (st2 := [(1, 0)]) (hs2 := jpA_306) (jA_289_1123 (d := 0) (by omega) (by omega)) (by rfl) (by rfl) (by decide +kernel) (by rfl) (by rfl) (by omega) (by omega) (by omega) (by omega) rfl (by decide +kernel) ?_
  refine jT_xlstore (v := (1, 0)) (LN := [(7, (1, 0)), (6, (0, 1)), (5, (0, 0)), (4, (4, 3)), (3, (4, 2)), (2, (4, 1)), (1, (4, 0)), (0, (6, 0))]) (pcN := 2715) jI_379_2713 rfl rfl rfl rfl ?_
  refine jT_xaload_n (v := (4, 1)) (pcN := 2716) jI_379_2715 rfl rfl rfl ?_
  refine jT_fR [1, 15, 16, 17, 18, 19, 20, 21, 22, 23, 24, 25, 26, 27, 28, 29] 30 (y := 186) (pcN := 2719) (dC := 0) (bc1 := 0) (bc2 := 0) (c1 := 0) (c2 := 0) (as := [(4, 1)]) (asC := [(4, 0)]) (LN := [(7, (1, 0)), (6, (0, 1)), (5, (0, 0)), (4, (4, 3)), (3, (4, 2)), (2, (4, 1)), (1, (4, 0)), (0, (6, 0))]) (stN := []) (hsC := jpA_20) (v := (0, 1)) (st2 := [(0, 1)]) (jA_186_8 (d := 0)) (by rfl) (by rfl) (by decide +kernel) (by rfl) (by rfl) (by omega) (by omega) (by omega) (by omega) rfl ?_
  refine jT_xiload (v := (0, 1)) (pcN := 2721) jI_379_2719 rfl rfl rfl ?_
  refine jT_xicT (pcN := 2726) jI_379_2721 rfl (by decide +kernel) rfl ?_
  refine jT_xiload (v := (0, 1)) (pcN := 2728) jI_379_2726 rfl rfl rfl ?_
  refine jT_xifT (pcN := 2742) jI_379_2728 rfl (by decide +kernel) rfl ?_
  refine jT_xgoto (pcN := 3740) jI_379_2742 rfl ?_
  refine jT_xiinc (x := 0) (z := 5) (LN := [(5, (0, 5)), (7, (1, 0)), (6, (0, 1)), (4, (4, 3)), (3, (4, 2)), (2, (4, 1)), (1, (4, 0)), (0, (6, 0))]) (pcN := 3743) jI_379_3740 rfl rfl (by decide) rfl rfl ?_
  refine jT_xgoto (pcN := 28) jI_379_3743 rfl ?_
  refine jT_xiload (v := (0, 5)) (pcN := 30) jI_379_28 rfl rfl rfl ?_
  refine jT_xaload_n (v := (6, 0)) (pcN := 31) jI_379_30 rfl rfl rfl ?_
  refine jT_adv 1 (pcN := 32) (LN := [(5, (0, 5)), (7, (1, 0)), (6, (0, 1)), (4, (4, 3)), (3, (4, 2)), (2, (4, 1)), (1, (4, 0)), (0, (6, 0))]) (stN := [(0, 5), (0, 5)]) (hsN := jpA_306) (c1 := 0) (s1 := 0) (c2 := 0) (s2 := 0) (by exact rfl) ?_ (by omega) (by omega)
  refine jT_xiconst (k := 5) (pcN := 33) jI_379_32 rfl ?_
  refine jT_xisub (x := 5) (y := 5) (z := 0) (pcN := 34) jI_379_33 rfl (by decide) rfl ?_
  refine jT_xicT (pcN := 3746) jI_379_34 rfl (by decide +kernel) rfl ?_
  refine jT_xiconst (k := 1) (pcN := 3747) jI_379_3746 rfl ?_
  exact jT_ret rfl (by decide) (by show 30 ≤ 30; decide) (by omega) (by omega) ⟨rfl, rfl⟩
set_option maxRecDepth 100000 in
theorem jL_35_1 {d : Nat} {x0 x1 x2 x3 x4 : Int} (h_x0 : (-2147483648) ≤ x0 ∧ x0 ≤ 2147483647) (h_x1 : 0 ≤ x1 ∧ x1 ≤ 7) (h_x2 : (-2147483648) ≤ x2 ∧ x2 ≤ (-1)) (h_x3 : (-2147483648) ≤ x3 ∧ x3 ≤ 2147483647) (h_x4 : (-2147483648) ≤ x4 ∧ x4 ≤ 2147483647) : jT [x0, x1, x2, x3, x4] (d + 3) 379 30 2678 [(5, (0, 0)), (4, (4, 3)), (3, (4, 2)), (2, (4, 1)), (1, (4, 0)), (0, (6, 0))] [] jpA_267 1 6 (fun k v hsN => k = 0 ∧ v = (0, 1)) := by
  refine jT_xaload_n (v := (4, 0)) (pcN := 2679) jI_379_2678 rfl rfl rfl ?_
  refine jT_xaload_n (v := (6, 0)) (pcN := 2680) jI_379_2679 rfl rfl rfl ?_
  refine jT_xiload (v := (0, 0)) (pcN := 2682) jI_379_2680 rfl rfl rfl ?_
  refine jT_xiconst (k := 1) (pcN := 2683) jI_379_2682 rfl ?_
  refine jT_xiadd (x := 0) (y := 1) (z := 1) (pcN := 2684) jI_379_2683 rfl (by decide) rfl ?_
  refine jT_adv 1 (pcN := 2685) (LN := [(5, (0, 0)), (4, (4, 3)), (3, (4, 2)), (2, (4, 1)), (1, (4, 0)), (0, (6, 0))]) (stN := [(0, x1), (4, 0)]) (hsN := jpA_267) (c1 := 0) (s1 := 0) (c2 := 1) (s2 := 6) (by exact rfl) ?_ (by omega) (by omega)
  refine jT_xaload_n (v := (6, 0)) (pcN := 2686) jI_379_2685 rfl rfl rfl ?_
  refine jT_xiload (v := (0, 0)) (pcN := 2688) jI_379_2686 rfl rfl rfl ?_
  refine jT_xiconst (k := 2) (pcN := 2689) jI_379_2688 rfl ?_
  refine jT_xiadd (x := 0) (y := 2) (z := 2) (pcN := 2690) jI_379_2689 rfl (by decide) rfl ?_
  refine jT_adv 1 (pcN := 2691) (LN := [(5, (0, 0)), (4, (4, 3)), (3, (4, 2)), (2, (4, 1)), (1, (4, 0)), (0, (6, 0))]) (stN := [(0, x2), (0, x1), (4, 0)]) (hsN := jpA_267) (c1 := 0) (s1 := 0) (c2 := 1) (s2 := 6) (by exact rfl) ?_ (by omega) (by omega)
  refine jT_xaload_n (v := (4, 2)) (pcN := 2692) jI_379_2691 rfl rfl rfl ?_
  refine jT_fR [0, 2, 4, 5, 6, 7, 8, 9, 10, 11, 12, 13, 14] 30 (y := 359) (pcN := 2695) (dC := 2) (bc1 := 1) (bc2 := 6) (c1 := 0) (c2 := 0) (as := [(4, 0), (0, x1), (0, x2), (4, 2)]) (asC := [(4, 0), (0, x1), (0, x2), (4, 1)]) (LN := [(5, (0, 0)), (4, (4, 3)), (3, (4, 2)), (2, (4, 1)), (1, (4, 0)), (0, (6, 0))]) (stN := []) (hsC := jpA_15) (v := (0, 2)) (st2 := [(0, 2)]) (jA_359_1126 (d := 0) (by omega) (by omega)) (by rfl) (by rfl) (by decide +kernel) (by rfl) (by rfl) (by omega) (by omega) (by omega) (by omega) rfl ?_
  refine jT_xistore (v := (0, 2)) (LN := [(6, (0, 2)), (5, (0, 0)), (4, (4, 3)), (3, (4, 2)), (2, (4, 1)), (1, (4, 0)), (0, (6, 0))]) (pcN := 2697) jI_379_2695 rfl rfl rfl rfl ?_
  refine jT_xaload_n (v := (4, 1)) (pcN := 2698) jI_379_2697 rfl rfl rfl ?_
  refine jT_xaload_n (v := (6, 0)) (pcN := 2699) jI_379_2698 rfl rfl rfl ?_
  refine jT_xiload (v := (0, 0)) (pcN := 2701) jI_379_2699 rfl rfl rfl ?_
  refine jT_xiconst (k := 1) (pcN := 2702) jI_379_2701 rfl ?_
  refine jT_xiadd (x := 0) (y := 1) (z := 1) (pcN := 2703) jI_379_2702 rfl (by decide) rfl ?_
  refine jT_adv 1 (pcN := 2704) (LN := [(6, (0, 2)), (5, (0, 0)), (4, (4, 3)), (3, (4, 2)), (2, (4, 1)), (1, (4, 0)), (0, (6, 0))]) (stN := [(0, x1), (4, 1)]) (hsN := jpA_267) (c1 := 0) (s1 := 0) (c2 := 0) (s2 := 0) (by exact rfl) ?_ (by omega) (by omega)
  refine jT_xaload_n (v := (6, 0)) (pcN := 2705) jI_379_2704 rfl rfl rfl ?_
  refine jT_xiload (v := (0, 0)) (pcN := 2707) jI_379_2705 rfl rfl rfl ?_
  refine jT_xiconst (k := 2) (pcN := 2708) jI_379_2707 rfl ?_
  refine jT_xiadd (x := 0) (y := 2) (z := 2) (pcN := 2709) jI_379_2708 rfl (by decide) rfl ?_
  refine jT_adv 1 (pcN := 2710) (LN := [(6, (0, 2)), (5, (0, 0)), (4, (4, 3)), (3, (4, 2)), (2, (4, 1)), (1, (4, 0)), (0, (6, 0))]) (stN := [(0, x2), (0, x1), (4, 1)]) (hsN := jpA_267) (c1 := 0) (s1 := 0) (c2 := 0) (s2 := 0) (by exact rfl) ?_ (by omega) (by omega)
  refine jT_fB [1, 15, 16, 17, 18, 19, 20, 21, 22, 23, 24, 25, 26, 27, 28, 29] 30 (y := 289) (pcN := 2713) (dC := 2) (bc1 := 0) (bc2 := 0) (c1 := 0) (c2 := 0) (as := [(4, 1), (0, x1), (0, x2)]) (asC := [(4, 0), (0, x1), (0, x2)]) (LN := [(6, (0, 2)), (5, (0, 0)), (4, (4, 3)), (3, (4, 2)), (2, (4, 1)), (1, (4, 0)), (0, (6, 0))]) (stN := []) (hsC := jpA_22) (hsD := jpA_361) (v := (1, 0)) (st2 := [(1, 0)]) (hs2 := jpA_607) (jA_289_1127 (d := 0) (by omega) (by omega)) (by rfl) (by rfl) (by decide +kernel) (by rfl) (by rfl) (by omega) (by omega) (by omega) (by omega) rfl (by decide +kernel) ?_
  refine jT_xlstore (v := (1, 0)) (LN := [(7, (1, 0)), (6, (0, 2)), (5, (0, 0)), (4, (4, 3)), (3, (4, 2)), (2, (4, 1)), (1, (4, 0)), (0, (6, 0))]) (pcN := 2715) jI_379_2713 rfl rfl rfl rfl ?_
  refine jT_xaload_n (v := (4, 1)) (pcN := 2716) jI_379_2715 rfl rfl rfl ?_
  refine jT_fR [1, 15, 16, 17, 18, 19, 20, 21, 22, 23, 24, 25, 26, 27, 28, 29] 30 (y := 186) (pcN := 2719) (dC := 0) (bc1 := 0) (bc2 := 0) (c1 := 0) (c2 := 0) (as := [(4, 1)]) (asC := [(4, 0)]) (LN := [(7, (1, 0)), (6, (0, 2)), (5, (0, 0)), (4, (4, 3)), (3, (4, 2)), (2, (4, 1)), (1, (4, 0)), (0, (6, 0))]) (stN := []) (hsC := jpA_361) (v := (0, 2)) (st2 := [(0, 2)]) (jA_186_101 (d := 0)) (by rfl) (by rfl) (by decide +kernel) (by rfl) (by rfl) (by omega) (by omega) (by omega) (by omega) rfl ?_
  refine jT_xiload (v := (0, 2)) (pcN := 2721) jI_379_2719 rfl rfl rfl ?_
  refine jT_xicT (pcN := 2726) jI_379_2721 rfl (by decide +kernel) rfl ?_
  refine jT_xiload (v := (0, 2)) (pcN := 2728) jI_379_2726 rfl rfl rfl ?_
  refine jT_xifT (pcN := 2742) jI_379_2728 rfl (by decide +kernel) rfl ?_
  refine jT_xgoto (pcN := 3740) jI_379_2742 rfl ?_
  refine jT_xiinc (x := 0) (z := 5) (LN := [(5, (0, 5)), (7, (1, 0)), (6, (0, 2)), (4, (4, 3)), (3, (4, 2)), (2, (4, 1)), (1, (4, 0)), (0, (6, 0))]) (pcN := 3743) jI_379_3740 rfl rfl (by decide) rfl rfl ?_
  refine jT_xgoto (pcN := 28) jI_379_3743 rfl ?_
  refine jT_xiload (v := (0, 5)) (pcN := 30) jI_379_28 rfl rfl rfl ?_
  refine jT_xaload_n (v := (6, 0)) (pcN := 31) jI_379_30 rfl rfl rfl ?_
  refine jT_adv 1 (pcN := 32) (LN := [(5, (0, 5)), (7, (1, 0)), (6, (0, 2)), (4, (4, 3)), (3, (4, 2)), (2, (4, 1)), (1, (4, 0)), (0, (6, 0))]) (stN := [(0, 5), (0, 5)]) (hsN := jpA_607) (c1 := 0) (s1 := 0) (c2 := 0) (s2 := 0) (by exact rfl) ?_ (by omega) (by omega)
  refine jT_xiconst (k := 5) (pcN := 33) jI_379_32 rfl ?_
  refine jT_xisub (x := 5) (y := 5) (z := 0) (pcN := 34) jI_379_33 rfl (by decide) rfl ?_
  refine jT_xicT (pcN := 3746) jI_379_34 rfl (by decide +kernel) rfl ?_
  refine jT_xiconst (k := 1) (pcN := 3747) jI_379_3746 rfl ?_
  exact jT_ret rfl (by decide) (by show 30 ≤ 30; decide) (by omega) (by omega) ⟨rfl, rfl⟩
def jpA_4001 : List JC := [jzA_265, jzA_266, jgh, jgh, (8, [(4, 30), (4, 31)], []), jgh, jgh, jgh, jgh, jgh, jgh, jgh, jgh, jgh, jzA_721, (100, [], jS0), jgh, jgh, jgh, jgh, jgh, (101, [], [0, 0, 0, 0, 0, 0]), jgh, jgh, jgh, jgh, jgh, jgh, jgh, jgh, jgh, jgh, jzA_3054, jgh, jgh, jgh, jgh, (4, [(4, 38), (1, 1)], []), (101, [], [0, 0, 0, 0, 0, 0])]
def jzA_4002 : JC := (14, [(0, 3), (4, 15), (4, 16), (4, 17), (4, 18), (0, 0), (4, 19), (0, 0), (4, 20), (4, 21), (1, 1), (4, 22), (0, 0), (4, 23), (0, 0), (0, 0), (0, 0), (0, 0), (0, 0), (0, 0), (0, 0), (4, 24), (4, 25), (4, 26), (4, 27), (4, 28), (4, 29), (0, 0)], [])
def jpA_4003 : List JC := [jzA_265, jzA_4002, jgh, jgh, (8, [(4, 30), (4, 31)], []), jgh, jgh, jgh, jgh, jgh, jgh, jgh, jgh, jgh, jzA_721, (100, [], jS0), jgh, jgh, jgh, jgh, jgh, (101, [], [0, 0, 0, 0, 0, 0]), jgh, jgh, jgh, jgh, jgh, jgh, jgh, jgh, jgh, jgh, jzA_3054, jgh, jgh, jgh, jgh, (4, [(4, 38), (1, 1)], []), (101, [], [0, 0, 0, 0, 0, 0])]
set_option maxRecDepth 100000 in
theorem jL_35_2 {d : Nat} {x0 x1 x2 x3 x4 : Int} (h_x0 : (-2147483648) ≤ x0 ∧ x0 ≤ 2147483647) (h_x1 : 0 ≤ x1 ∧ x1 ≤ 7) (h_x2 : 0 ≤ x2 ∧ x2 ≤ 15) (h_x3 : (-2147483648) ≤ x3 ∧ x3 ≤ 2147483647) (h_x4 : (-2147483648) ≤ x4 ∧ x4 ≤ 2147483647) : jT [x0, x1, x2, x3, x4] (d + 4) 379 39 2678 [(5, (0, 0)), (4, (4, 3)), (3, (4, 2)), (2, (4, 1)), (1, (4, 0)), (0, (6, 0))] [] jpA_4001 1 6 (fun k v hsN => k = 0 ∧ v = (0, 1)) := by
  refine jT_xaload_n (v := (4, 0)) (pcN := 2679) jI_379_2678 rfl rfl rfl ?_
  refine jT_xaload_n (v := (6, 0)) (pcN := 2680) jI_379_2679 rfl rfl rfl ?_
  refine jT_xiload (v := (0, 0)) (pcN := 2682) jI_379_2680 rfl rfl rfl ?_
  refine jT_xiconst (k := 1) (pcN := 2683) jI_379_2682 rfl ?_
  refine jT_xiadd (x := 0) (y := 1) (z := 1) (pcN := 2684) jI_379_2683 rfl (by decide) rfl ?_
  refine jT_adv 1 (pcN := 2685) (LN := [(5, (0, 0)), (4, (4, 3)), (3, (4, 2)), (2, (4, 1)), (1, (4, 0)), (0, (6, 0))]) (stN := [(0, x1), (4, 0)]) (hsN := jpA_4001) (c1 := 0) (s1 := 0) (c2 := 1) (s2 := 6) (by exact rfl) ?_ (by omega) (by omega)
  refine jT_xaload_n (v := (6, 0)) (pcN := 2686) jI_379_2685 rfl rfl rfl ?_
  refine jT_xiload (v := (0, 0)) (pcN := 2688) jI_379_2686 rfl rfl rfl ?_
  refine jT_xiconst (k := 2) (pcN := 2689) jI_379_2688 rfl ?_
  refine jT_xiadd (x := 0) (y := 2) (z := 2) (pcN := 2690) jI_379_2689 rfl (by decide) rfl ?_
  refine jT_adv 1 (pcN := 2691) (LN := [(5, (0, 0)), (4, (4, 3)), (3, (4, 2)), (2, (4, 1)), (1, (4, 0)), (0, (6, 0))]) (stN := [(0, x2), (0, x1), (4, 0)]) (hsN := jpA_4001) (c1 := 0) (s1 := 0) (c2 := 1) (s2 := 6) (by exact rfl) ?_ (by omega) (by omega)
  refine jT_xaload_n (v := (4, 2)) (pcN := 2692) jI_379_2691 rfl rfl rfl ?_
  refine jT_fR [0, 2, 4, 5, 6, 7, 8, 9, 10, 11, 12, 13, 14, 30, 31, 32, 33, 34, 35, 36, 37, 38] 39 (y := 359) (pcN := 2695) (dC := 3) (bc1 := 1) (bc2 := 6) (c1 := 0) (c2 := 0) (as := [(4, 0), (0, x1), (0, x2), (4, 2)]) (asC := [(4, 0), (0, x1), (0, x2), (4, 1)]) (LN := [(5, (0, 0)), (4, (4, 3)), (3, (4, 2)), (2, (4, 1)), (1, (4, 0)), (0, (6, 0))]) (stN := []) (hsC := jpA_3959) (v := (0, 3)) (st2 := [(0, 3)]) (jA_359_1131 (d := 0) (by omega) (by omega)) (by rfl) (by rfl) (by decide +kernel) (by rfl) (by rfl) (by omega) (by omega) (by omega) (by omega) rfl ?_
  refine jT_xistore (v := (0, 3)) (LN := [(6, (0, 3)), (5, (0, 0)), (4, (4, 3)), (3, (4, 2)), (2, (4, 1)), (1, (4, 0)), (0, (6, 0))]) (pcN := 2697) jI_379_2695 rfl rfl rfl rfl ?_
  refine jT_xaload_n (v := (4, 1)) (pcN := 2698) jI_379_2697 rfl rfl rfl ?_
  refine jT_xaload_n (v := (6, 0)) (pcN := 2699) jI_379_2698 rfl rfl rfl ?_
  refine jT_xiload (v := (0, 0)) (pcN := 2701) jI_379_2699 rfl rfl rfl ?_
  refine jT_xiconst (k := 1) (pcN := 2702) jI_379_2701 rfl ?_
  refine jT_xiadd (x := 0) (y := 1) (z := 1) (pcN := 2703) jI_379_2702 rfl (by decide) rfl ?_
  refine jT_adv 1 (pcN := 2704) (LN := [(6, (0, 3)), (5, (0, 0)), (4, (4, 3)), (3, (4, 2)), (2, (4, 1)), (1, (4, 0)), (0, (6, 0))]) (stN := [(0, x1), (4, 1)]) (hsN := jpA_4001) (c1 := 0) (s1 := 0) (c2 := 0) (s2 := 0) (by exact rfl) ?_ (by omega) (by omega)
  refine jT_xaload_n (v := (6, 0)) (pcN := 2705) jI_379_2704 rfl rfl rfl ?_
  refine jT_xiload (v := (0, 0)) (pcN := 2707) jI_379_2705 rfl rfl rfl ?_
  refine jT_xiconst (k := 2) (pcN := 2708) jI_379_2707 rfl ?_
  refine jT_xiadd (x := 0) (y := 2) (z := 2) (pcN := 2709) jI_379_2708 rfl (by decide) rfl ?_
  refine jT_adv 1 (pcN := 2710) (LN := [(6, (0, 3)), (5, (0, 0)), (4, (4, 3)), (3, (4, 2)), (2, (4, 1)), (1, (4, 0)), (0, (6, 0))]) (stN := [(0, x2), (0, x1), (4, 1)]) (hsN := jpA_4001) (c1 := 0) (s1 := 0) (c2 := 0) (s2 := 0) (by exact rfl) ?_ (by omega) (by omega)
  refine jT_fB [1, 15, 16, 17, 18, 19, 20, 21, 22, 23, 24, 25, 26, 27, 28, 29] 39 (y := 289) (pcN := 2713) (dC := 2) (bc1 := 0) (bc2 := 0) (c1 := 0) (c2 := 0) (as := [(4, 1), (0, x1), (0, x2)]) (asC := [(4, 0), (0, x1), (0, x2)]) (LN := [(6, (0, 3)), (5, (0, 0)), (4, (4, 3)), (3, (4, 2)), (2, (4, 1)), (1, (4, 0)), (0, (6, 0))]) (stN := []) (hsC := jpA_130) (hsD := jpA_3971) (v := (1, 0)) (st2 := [(1, 0)]) (hs2 := jpA_4003) (jA_289_1133 (d := 0) (by omega) (by omega)) (by rfl) (by rfl) (by decide +kernel) (by rfl) (by rfl) (by omega) (by omega) (by omega) (by omega) rfl (by decide +kernel) ?_
  refine jT_xlstore (v := (1, 0)) (LN := [(7, (1, 0)), (6, (0, 3)), (5, (0, 0)), (4, (4, 3)), (3, (4, 2)), (2, (4, 1)), (1, (4, 0)), (0, (6, 0))]) (pcN := 2715) jI_379_2713 rfl rfl rfl rfl ?_
  refine jT_xaload_n (v := (4, 1)) (pcN := 2716) jI_379_2715 rfl rfl rfl ?_
  refine jT_fR [1, 15, 16, 17, 18, 19, 20, 21, 22, 23, 24, 25, 26, 27, 28, 29] 39 (y := 186) (pcN := 2719) (dC := 0) (bc1 := 0) (bc2 := 0) (c1 := 0) (c2 := 0) (as := [(4, 1)]) (asC := [(4, 0)]) (LN := [(7, (1, 0)), (6, (0, 3)), (5, (0, 0)), (4, (4, 3)), (3, (4, 2)), (2, (4, 1)), (1, (4, 0)), (0, (6, 0))]) (stN := []) (hsC := jpA_3961) (v := (0, 3)) (st2 := [(0, 3)]) (jA_186_1134 (d := 0)) (by rfl) (by rfl) (by decide +kernel) (by rfl) (by rfl) (by omega) (by omega) (by omega) (by omega) rfl ?_
  refine jT_xiload (v := (0, 3)) (pcN := 2721) jI_379_2719 rfl rfl rfl ?_
  refine jT_xicT (pcN := 2726) jI_379_2721 rfl (by decide +kernel) rfl ?_
  refine jT_xiload (v := (0, 3)) (pcN := 2728) jI_379_2726 rfl rfl rfl ?_
  refine jT_xifT (pcN := 2742) jI_379_2728 rfl (by decide +kernel) rfl ?_
  refine jT_xgoto (pcN := 3740) jI_379_2742 rfl ?_
  refine jT_xiinc (x := 0) (z := 5) (LN := [(5, (0, 5)), (7, (1, 0)), (6, (0, 3)), (4, (4, 3)), (3, (4, 2)), (2, (4, 1)), (1, (4, 0)), (0, (6, 0))]) (pcN := 3743) jI_379_3740 rfl rfl (by decide) rfl rfl ?_
  refine jT_xgoto (pcN := 28) jI_379_3743 rfl ?_
  refine jT_xiload (v := (0, 5)) (pcN := 30) jI_379_28 rfl rfl rfl ?_
  refine jT_xaload_n (v := (6, 0)) (pcN := 31) jI_379_30 rfl rfl rfl ?_
  refine jT_adv 1 (pcN := 32) (LN := [(5, (0, 5)), (7, (1, 0)), (6, (0, 3)), (4, (4, 3)), (3, (4, 2)), (2, (4, 1)), (1, (4, 0)), (0, (6, 0))]) (stN := [(0, 5), (0, 5)]) (hsN := jpA_4003) (c1 := 0) (s1 := 0) (c2 := 0) (s2 := 0) (by exact rfl) ?_ (by omega) (by omega)
  refine jT_xiconst (k := 5) (pcN := 33) jI_379_32 rfl ?_
  refine jT_xisub (x := 5) (y := 5) (z := 0) (pcN := 34) jI_379_33 rfl (by decide) rfl ?_
  refine jT_xicT (pcN := 3746) jI_379_34 rfl (by decide +kernel) rfl ?_
  refine jT_xiconst (k := 1) (pcN := 3747) jI_379_3746 rfl ?_
  exact jT_ret rfl (by decide) (by show 39 ≤ 39; decide) (by omega) (by omega) ⟨rfl, rfl⟩
set_option maxRecDepth 100000 in
theorem jL_35_3 {d : Nat} {x0 x1 x2 x3 x4 : Int} (h_x0 : (-2147483648) ≤ x0 ∧ x0 ≤ 2147483647) (h_x1 : 0 ≤ x1 ∧ x1 ≤ 7) (h_x2 : 16 ≤ x2 ∧ x2 ≤ 2147483647) (h_x3 : (-2147483648) ≤ x3 ∧ x3 ≤ 2147483647) (h_x4 : (-2147483648) ≤ x4 ∧ x4 ≤ 2147483647) : jT [x0, x1, x2, x3, x4] (d + 3) 379 30 2678 [(5, (0, 0)), (4, (4, 3)), (3, (4, 2)), (2, (4, 1)), (1, (4, 0)), (0, (6, 0))] [] jpA_267 1 6 (fun k v hsN => k = 0 ∧ v = (0, 1)) := by
  refine jT_xaload_n (v := (4, 0)) (pcN := 2679) jI_379_2678 rfl rfl rfl ?_
  refine jT_xaload_n (v := (6, 0)) (pcN := 2680) jI_379_2679 rfl rfl rfl ?_
  refine jT_xiload (v := (0, 0)) (pcN := 2682) jI_379_2680 rfl rfl rfl ?_
  refine jT_xiconst (k := 1) (pcN := 2683) jI_379_2682 rfl ?_
  refine jT_xiadd (x := 0) (y := 1) (z := 1) (pcN := 2684) jI_379_2683 rfl (by decide) rfl ?_
  refine jT_adv 1 (pcN := 2685) (LN := [(5, (0, 0)), (4, (4, 3)), (3, (4, 2)), (2, (4, 1)), (1, (4, 0)), (0, (6, 0))]) (stN := [(0, x1), (4, 0)]) (hsN := jpA_267) (c1 := 0) (s1 := 0) (c2 := 1) (s2 := 6) (by exact rfl) ?_ (by omega) (by omega)
  refine jT_xaload_n (v := (6, 0)) (pcN := 2686) jI_379_2685 rfl rfl rfl ?_
  refine jT_xiload (v := (0, 0)) (pcN := 2688) jI_379_2686 rfl rfl rfl ?_
  refine jT_xiconst (k := 2) (pcN := 2689) jI_379_2688 rfl ?_
  refine jT_xiadd (x := 0) (y := 2) (z := 2) (pcN := 2690) jI_379_2689 rfl (by decide) rfl ?_
  refine jT_adv 1 (pcN := 2691) (LN := [(5, (0, 0)), (4, (4, 3)), (3, (4, 2)), (2, (4, 1)), (1, (4, 0)), (0, (6, 0))]) (stN := [(0, x2), (0, x1), (4, 0)]) (hsN := jpA_267) (c1 := 0) (s1 := 0) (c2 := 1) (s2 := 6) (by exact rfl) ?_ (by omega) (by omega)
  refine jT_xaload_n (v := (4, 2)) (pcN := 2692) jI_379_2691 rfl rfl rfl ?_
  refine jT_fR [0, 2, 4, 5, 6, 7, 8, 9, 10, 11, 12, 13, 14] 30 (y := 359) (pcN := 2695) (dC := 2) (bc1 := 1) (bc2 := 6) (c1 := 0) (c2 := 0) (as := [(4, 0), (0, x1), (0, x2), (4, 2)]) (asC := [(4, 0), (0, x1), (0, x2), (4, 1)]) (LN := [(5, (0, 0)), (4, (4, 3)), (3, (4, 2)), (2, (4, 1)), (1, (4, 0)), (0, (6, 0))]) (stN := []) (hsC := jpA_15) (v := (0, 2)) (st2 := [(0, 2)]) (jA_359_1137 (d := 0) (by omega) (by omega)) (by rfl) (by rfl) (by decide +kernel) (by rfl) (by rfl) (by omega) (by omega) (by omega) (by omega) rfl ?_
  refine jT_xistore (v := (0, 2)) (LN := [(6, (0, 2)), (5, (0, 0)), (4, (4, 3)), (3, (4, 2)), (2, (4, 1)), (1, (4, 0)), (0, (6, 0))]) (pcN := 2697) jI_379_2695 rfl rfl rfl rfl ?_
  refine jT_xaload_n (v := (4, 1)) (pcN := 2698) jI_379_2697 rfl rfl rfl ?_
  refine jT_xaload_n (v := (6, 0)) (pcN := 2699) jI_379_2698 rfl rfl rfl ?_
  refine jT_xiload (v := (0, 0)) (pcN := 2701) jI_379_2699 rfl rfl rfl ?_
  refine jT_xiconst (k := 1) (pcN := 2702) jI_379_2701 rfl ?_
  refine jT_xiadd (x := 0) (y := 1) (z := 1) (pcN := 2703) jI_379_2702 rfl (by decide) rfl ?_
  refine jT_adv 1 (pcN := 2704) (LN := [(6, (0, 2)), (5, (0, 0)), (4, (4, 3)), (3, (4, 2)), (2, (4, 1)), (1, (4, 0)), (0, (6, 0))]) (stN := [(0, x1), (4, 1)]) (hsN := jpA_267) (c1 := 0) (s1 := 0) (c2 := 0) (s2 := 0) (by exact rfl) ?_ (by omega) (by omega)
  refine jT_xaload_n (v := (6, 0)) (pcN := 2705) jI_379_2704 rfl rfl rfl ?_
  refine jT_xiload (v := (0, 0)) (pcN := 2707) jI_379_2705 rfl rfl rfl ?_
  refine jT_xiconst (k := 2) (pcN := 2708) jI_379_2707 rfl ?_
  refine jT_xiadd (x := 0) (y := 2) (z := 2) (pcN := 2709) jI_379_2708 rfl (by decide) rfl ?_
  refine jT_adv 1 (pcN := 2710) (LN := [(6, (0, 2)), (5, (0, 0)), (4, (4, 3)), (3, (4, 2)), (2, (4, 1)), (1, (4, 0)), (0, (6, 0))]) (stN := [(0, x2), (0, x1), (4, 1)]) (hsN := jpA_267) (c1 := 0) (s1 := 0) (c2 := 0) (s2 := 0) (by exact rfl) ?_ (by omega) (by omega)
  refine jT_fB [1, 15, 16, 17, 18, 19, 20, 21, 22, 23, 24, 25, 26, 27, 28, 29] 30 (y := 289) (pcN := 2713) (dC := 2) (bc1 := 0) (bc2 := 0) (c1 := 0) (c2 := 0) (as := [(4, 1), (0, x1), (0, x2)]) (asC := [(4, 0), (0, x1), (0, x2)]) (LN := [(6, (0, 2)), (5, (0, 0)), (4, (4, 3)), (3, (4, 2)), (2, (4, 1)), (1, (4, 0)), (0, (6, 0))]) (stN := []) (hsC := jpA_22) (hsD := jpA_361) (v := (1, 0)) (st2 := [(1, 0)]) (hs2 := jpA_607) (jA_289_1138 (d := 0) (by omega) (by omega)) (by rfl) (by rfl) (by decide +kernel) (by rfl) (by rfl) (by omega) (by omega) (by omega) (by omega) rfl (by decide +kernel) ?_
  refine jT_xlstore (v := (1, 0)) (LN := [(7, (1, 0)), (6, (0, 2)), (5, (0, 0)), (4, (4, 3)), (3, (4, 2)), (2, (4, 1)), (1, (4, 0)), (0, (6, 0))]) (pcN := 2715) jI_379_2713 rfl rfl rfl rfl ?_
  refine jT_xaload_n (v := (4, 1)) (pcN := 2716) jI_379_2715 rfl rfl rfl ?_
  refine jT_fR [1, 15, 16, 17, 18, 19, 20, 21, 22, 23, 24, 25, 26, 27, 28, 29] 30 (y := 186) (pcN := 2719) (dC := 0) (bc1 := 0) (bc2 := 0) (c1 := 0) (c2 := 0) (as := [(4, 1)]) (asC := [(4, 0)]) (LN := [(7, (1, 0)), (6, (0, 2)), (5, (0, 0)), (4, (4, 3)), (3, (4, 2)), (2, (4, 1)), (1, (4, 0)), (0, (6, 0))]) (stN := []) (hsC := jpA_361) (v := (0, 2)) (st2 := [(0, 2)]) (jA_186_101 (d := 0)) (by rfl) (by rfl) (by decide +kernel) (by rfl) (by rfl) (by omega) (by omega) (by omega) (by omega) rfl ?_
  refine jT_xiload (v := (0, 2)) (pcN := 2721) jI_379_2719 rfl rfl rfl ?_
  refine jT_xicT (pcN := 2726) jI_379_2721 rfl (by decide +kernel) rfl ?_
  refine jT_xiload (v := (0, 2)) (pcN := 2728) jI_379_2726 rfl rfl rfl ?_
  refine jT_xifT (pcN := 2742) jI_379_2728 rfl (by decide +kernel) rfl ?_
  refine jT_xgoto (pcN := 3740) jI_379_2742 rfl ?_
  refine jT_xiinc (x := 0) (z := 5) (LN := [(5, (0, 5)), (7, (1, 0)), (6, (0, 2)), (4, (4, 3)), (3, (4, 2)), (2, (4, 1)), (1, (4, 0)), (0, (6, 0))]) (pcN := 3743) jI_379_3740 rfl rfl (by decide) rfl rfl ?_
  refine jT_xgoto (pcN := 28) jI_379_3743 rfl ?_
  refine jT_xiload (v := (0, 5)) (pcN := 30) jI_379_28 rfl rfl rfl ?_
  refine jT_xaload_n (v := (6, 0)) (pcN := 31) jI_379_30 rfl rfl rfl ?_
  refine jT_adv 1 (pcN := 32) (LN := [(5, (0, 5)), (7, (1, 0)), (6, (0, 2)), (4, (4, 3)), (3, (4, 2)), (2, (4, 1)), (1, (4, 0)), (0, (6, 0))]) (stN := [(0, 5), (0, 5)]) (hsN := jpA_607) (c1 := 0) (s1 := 0) (c2 := 0) (s2 := 0) (by exact rfl) ?_ (by omega) (by omega)
  refine jT_xiconst (k := 5) (pcN := 33) jI_379_32 rfl ?_
  refine jT_xisub (x := 5) (y := 5) (z := 0) (pcN := 34) jI_379_33 rfl (by decide) rfl ?_
  refine jT_xicT (pcN := 3746) jI_379_34 rfl (by decide +kernel) rfl ?_
  refine jT_xiconst (k := 1) (pcN := 3747) jI_379_3746 rfl ?_
  exact jT_ret rfl (by decide) (by show 30 ≤ 30; decide) (by omega) (by omega) ⟨rfl, rfl⟩
set_option maxRecDepth 100000 in
theorem jL_35_4 {d : Nat} {x0 x1 x2 x3 x4 : Int} (h_x0 : (-2147483648) ≤ x0 ∧ x0 ≤ 2147483647) (h_x1 : 8 ≤ x1 ∧ x1 ≤ 2147483647) (h_x2 : (-2147483648) ≤ x2 ∧ x2 ≤ 2147483647) (h_x3 : (-2147483648) ≤ x3 ∧ x3 ≤ 2147483647) (h_x4 : (-2147483648) ≤ x4 ∧ x4 ≤ 2147483647) : jT [x0, x1, x2, x3, x4] (d + 3) 379 30 2678 [(5, (0, 0)), (4, (4, 3)), (3, (4, 2)), (2, (4, 1)), (1, (4, 0)), (0, (6, 0))] [] jpA_267 1 6 (fun k v hsN => k = 0 ∧ v = (0, 1)) := by
  refine jT_xaload_n (v := (4, 0)) (pcN := 2679) jI_379_2678 rfl rfl rfl ?_
  refine jT_xaload_n (v := (6, 0)) (pcN := 2680) jI_379_2679 rfl rfl rfl ?_
  refine jT_xiload (v := (0, 0)) (pcN := 2682) jI_379_2680 rfl rfl rfl ?_
  refine jT_xiconst (k := 1) (pcN := 2683) jI_379_2682 rfl ?_
  refine jT_xiadd (x := 0) (y := 1) (z := 1) (pcN := 2684) jI_379_2683 rfl (by decide) rfl ?_
  refine jT_adv 1 (pcN := 2685) (LN := [(5, (0, 0)), (4, (4, 3)), (3, (4, 2)), (2, (4, 1)), (1, (4, 0)), (0, (6, 0))]) (stN := [(0, x1), (4, 0)]) (hsN := jpA_267) (c1 := 0) (s1 := 0) (c2 := 1) (s2 := 6) (by exact rfl) ?_ (by omega) (by omega)
  refine jT_xaload_n (v := (6, 0)) (pcN := 2686) jI_379_2685 rfl rfl rfl ?_
  refine jT_xiload (v := (0, 0)) (pcN := 2688) jI_379_2686 rfl rfl rfl ?_
  refine jT_xiconst (k := 2) (pcN := 2689) jI_379_2688 rfl ?_
  refine jT_xiadd (x := 0) (y := 2) (z := 2) (pcN := 2690) jI_379_2689 rfl (by decide) rfl ?_
  refine jT_adv 1 (pcN := 2691) (LN := [(5, (0, 0)), (4, (4, 3)), (3, (4, 2)), (2, (4, 1)), (1, (4, 0)), (0, (6, 0))]) (stN := [(0, x2), (0, x1), (4, 0)]) (hsN := jpA_267) (c1 := 0) (s1 := 0) (c2 := 1) (s2 := 6) (by exact rfl) ?_ (by omega) (by omega)
  refine jT_xaload_n (v := (4, 2)) (pcN := 2692) jI_379_2691 rfl rfl rfl ?_
  refine jT_fR [0, 2, 4, 5, 6, 7, 8, 9, 10, 11, 12, 13, 14] 30 (y := 359) (pcN := 2695) (dC := 2) (bc1 := 1) (bc2 := 6) (c1 := 0) (c2 := 0) (as := [(4, 0), (0, x1), (0, x2), (4, 2)]) (asC := [(4, 0), (0, x1), (0, x2), (4, 1)]) (LN := [(5, (0, 0)), (4, (4, 3)), (3, (4, 2)), (2, (4, 1)), (1, (4, 0)), (0, (6, 0))]) (stN := []) (hsC := jpA_15) (v := (0, 1)) (st2 := [(0, 1)]) (jA_359_1140 (d := 0) (by omega) (by omega)) (by rfl) (by rfl) (by decide +kernel) (by rfl) (by rfl) (by omega) (by omega) (by omega) (by omega) rfl ?_
  refine jT_xistore (v := (0, 1)) (LN := [(6, (0, 1)), (5, (0, 0)), (4, (4, 3)), (3, (4, 2)), (2, (4, 1)), (1, (4, 0)), (0, (6, 0))]) (pcN := 2697) jI_379_2695 rfl rfl rfl rfl ?_
  refine jT_xaload_n (v := (4, 1)) (pcN := 2698) jI_379_2697 rfl rfl rfl ?_
  refine jT_xaload_n (v := (6, 0)) (pcN := 2699) jI_379_2698 rfl rfl rfl ?_
  refine jT_xiload (v := (0, 0)) (pcN := 2701) jI_379_2699 rfl rfl rfl ?_
  refine jT_xiconst (k := 1) (pcN := 2702) jI_379_2701 rfl ?_
  refine jT_xiadd (x := 0) (y := 1) (z := 1) (pcN := 2703) jI_379_2702 rfl (by decide) rfl ?_
  refine jT_adv 1 (pcN := 2704) (LN := [(6, (0, 1)), (5, (0, 0)), (4, (4, 3)), (3, (4, 2)), (2, (4, 1)), (1, (4, 0)), (0, (6, 0))]) (stN := [(0, x1), (4, 1)]) (hsN := jpA_267) (c1 := 0) (s1 := 0) (c2 := 0) (s2 := 0) (by exact rfl) ?_ (by omega) (by omega)
  refine jT_xaload_n (v := (6, 0)) (pcN := 2705) jI_379_2704 rfl rfl rfl ?_
  refine jT_xiload (v := (0, 0)) (pcN := 2707) jI_379_2705 rfl rfl rfl ?_
  refine jT_xiconst (k := 2) (pcN := 2708) jI_379_2707 rfl ?_
  refine jT_xiadd (x := 0) (y := 2) (z := 2) (pcN := 2709) jI_379_2708 rfl (by decide) rfl ?_
  refine jT_adv 1 (pcN := 2710) (LN := [(6, (0, 1)), (5, (0, 0)), (4, (4, 3)), (3, (4, 2)), (2, (4, 1)), (1, (4, 0)), (0, (6, 0))]) (stN := [(0, x2), (0, x1), (4, 1)]) (hsN := jpA_267) (c1 := 0) (s1 := 0) (c2 := 0) (s2 := 0) (by exact rfl) ?_ (by omega) (by omega)
  refine jT_fB [1, 15, 16, 17, 18, 19, 20, 21, 22, 23, 24, 25, 26, 27, 28, 29] 30 (y := 289) (pcN := 2713) (dC := 2) (bc1 := 0) (bc2 := 0) (c1 := 0) (c2 := 0) (as := [(4, 1), (0, x1), (0, x2)]) (asC := [(4, 0), (0, x1), (0, x2)]) (LN := [(6, (0, 1)), (5, (0, 0)), (4, (4, 3)), (3, (4, 2)), (2, (4, 1)), (1, (4, 0)), (0, (6, 0))]) (stN := []) (hsC := jpA_22) (hsD := jpA_20) (v := (1, 0)) (st2 := [(1, 0)]) (hs2 := jpA_306) (jA_289_1141 (d := 0) (by omega) (by omega)) (by rfl) (by rfl) (by decide +kernel) (by rfl) (by rfl) (by omega) (by omega) (by omega) (by omega) rfl (by decide +kernel) ?_
  refine jT_xlstore (v := (1, 0)) (LN := [(7, (1, 0)), (6, (0, 1)), (5, (0, 0)), (4, (4, 3)), (3, (4, 2)), (2, (4, 1)), (1, (4, 0)), (0, (6, 0))]) (pcN := 2715) jI_379_2713 rfl rfl rfl rfl ?_
  refine jT_xaload_n (v := (4, 1)) (pcN := 2716) jI_379_2715 rfl rfl rfl ?_
  refine jT_fR [1, 15, 16, 17, 18, 19, 20, 21, 22, 23, 24, 25, 26, 27, 28, 29] 30 (y := 186) (pcN := 2719) (dC := 0) (bc1 := 0) (bc2 := 0) (c1 := 0) (c2 := 0) (as := [(4, 1)]) (asC := [(4, 0)]) (LN := [(7, (1, 0)), (6, (0, 1)), (5, (0, 0)), (4, (4, 3)), (3, (4, 2)), (2, (4, 1)), (1, (4, 0)), (0, (6, 0))]) (stN := []) (hsC := jpA_20) (v := (0, 1)) (st2 := [(0, 1)]) (jA_186_8 (d := 0)) (by rfl) (by rfl) (by decide +kernel) (by rfl) (by rfl) (by omega) (by omega) (by omega) (by omega) rfl ?_
  refine jT_xiload (v := (0, 1)) (pcN := 2721) jI_379_2719 rfl rfl rfl ?_
  refine jT_xicT (pcN := 2726) jI_379_2721 rfl (by decide +kernel) rfl ?_
  refine jT_xiload (v := (0, 1)) (pcN := 2728) jI_379_2726 rfl rfl rfl ?_
  refine jT_xifT (pcN := 2742) jI_379_2728 rfl (by decide +kernel) rfl ?_
  refine jT_xgoto (pcN := 3740) jI_379_2742 rfl ?_
  refine jT_xiinc (x := 0) (z := 5) (LN := [(5, (0, 5)), (7, (1, 0)), (6, (0, 1)), (4, (4, 3)), (3, (4, 2)), (2, (4, 1)), (1, (4, 0)), (0, (6, 0))]) (pcN := 3743) jI_379_3740 rfl rfl (by decide) rfl rfl ?_
  refine jT_xgoto (pcN := 28) jI_379_3743 rfl ?_
  refine jT_xiload (v := (0, 5)) (pcN := 30) jI_379_28 rfl rfl rfl ?_
  refine jT_xaload_n (v := (6, 0)) (pcN := 31) jI_379_30 rfl rfl rfl ?_
  refine jT_adv 1 (pcN := 32) (LN := [(5, (0, 5)), (7, (1, 0)), (6, (0, 1)), (4, (4, 3)), (3, (4, 2)), (2, (4, 1)), (1, (4, 0)), (0, (6, 0))]) (stN := [(0, 5), (0, 5)]) (hsN := jpA_306) (c1 := 0) (s1 := 0) (c2 := 0) (s2 := 0) (by exact rfl) ?_ (by omega) (by omega)
  refine jT_xiconst (k := 5) (pcN := 33) jI_379_32 rfl ?_
  refine jT_xisub (x := 5) (y := 5) (z := 0) (pcN := 34) jI_379_33 rfl (by decide) rfl ?_
  refine jT_xicT (pcN := 3746) jI_379_34 rfl (by decide +kernel) rfl ?_
  refine jT_xiconst (k := 1) (pcN := 3747) jI_379_3746 rfl ?_
  exact jT_ret rfl (by decide) (by show 30 ≤ 30; decide) (by omega) (by omega) ⟨rfl, rfl⟩
