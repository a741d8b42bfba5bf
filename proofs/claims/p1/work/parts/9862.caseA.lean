/-! the law, case by case: 22 -/
theorem jI_140_0 : jmI (jm 140) 0 = (.aload_n 0, 1) := by rfl
theorem jI_140_1 : jmI (jm 140) 1 = (.iload_n 1, 1) := by rfl
theorem jI_140_2 : jmI (jm 140) 2 = (.bipush 8, 2) := by rfl
theorem jA_140_1264 {xs : List Int} {d : Nat} {x1 x2 x3 : Int} (h_x1 : (-2147483648) ≤ x1 ∧ x1 ≤ (-1)) (h_x2 : (-2147483648) ≤ x2 ∧ x2 ≤ 2147483647) (h_x3 : (-2147483648) ≤ x3 ∧ x3 ≤ 2147483647) : jT xs (d + 1) 140 12 0 [(0, (4, 0)), (1, (0, x1)), (2, (0, x2)), (3, (0, x3))] [] jpA_6 1 6 (fun k v hsN => k = 1 ∧ v = (0, 0) ∧ hsN = jpA_6 ++ []) := by
  refine jT_xaload_n (v := (4, 0)) (pcN := 1) jI_140_0 rfl rfl rfl ?_
  refine jT_xiload_n (v := (0, x1)) (pcN := 2) jI_140_1 rfl rfl rfl ?_
  refine jT_xbipush (k := 8) (pcN := 4) jI_140_2 (by decide) rfl ?_
  exact jT_fX [0] 12 (y := 115) (pcN := 7) (dC := 0) (bc1 := 1) (bc2 := 6) (as := [(4, 0), (0, x1), (0, 8)]) (asC := [(4, 0), (0, x1), (0, 8)]) (LN := [(0, (4, 0)), (1, (0, x1)), (2, (0, x2)), (3, (0, x3))]) (stN := []) (hsC := [jgh]) (e := 0) (jA_115_1 (d := 0) (by omega)) (by rfl) (by rfl) (by decide +kernel) (by rfl) (by rfl) (by omega) (by omega) (by omega) (by omega) ⟨rfl, ⟨rfl, rfl, rfl⟩⟩
theorem jI_347_0 : jmI (jm 347) 0 = (.aload 4, 2) := by rfl
theorem jI_347_2 : jmI (jm 347) 2 = (.iconst 0, 1) := by rfl
theorem jI_347_3 : jmI (jm 347) 3 = (.aload_n 0, 1) := by rfl
theorem jI_347_4 : jmI (jm 347) 4 = (.iload_n 1, 1) := by rfl
theorem jI_347_5 : jmI (jm 347) 5 = (.iload_n 2, 1) := by rfl
theorem jI_347_6 : jmI (jm 347) 6 = (.iload_n 3, 1) := by rfl
theorem jA_347_1265 {xs : List Int} {d : Nat} {x1 x2 x3 : Int} (h_x1 : (-2147483648) ≤ x1 ∧ x1 ≤ (-1)) (h_x2 : (-2147483648) ≤ x2 ∧ x2 ≤ 2147483647) (h_x3 : (-2147483648) ≤ x3 ∧ x3 ≤ 2147483647) : jT xs (d + 2) 347 13 0 [(0, (4, 0)), (1, (0, x1)), (2, (0, x2)), (3, (0, x3)), (4, (4, 1))] [] jpA_15 1 6 (fun k v hsN => k = 0 ∧ v = (0, 1) ∧ hsN = jpA_15 ++ []) := by
  refine jT_xaload (v := (4, 1)) (pcN := 2) jI_347_0 rfl rfl rfl ?_
  refine jT_xiconst (k := 0) (pcN := 3) jI_347_2 rfl ?_
  refine jT_xaload_n (v := (4, 0)) (pcN := 4) jI_347_3 rfl rfl rfl ?_
  refine jT_xiload_n (v := (0, x1)) (pcN := 5) jI_347_4 rfl rfl rfl ?_
  refine jT_xiload_n (v := (0, x2)) (pcN := 6) jI_347_5 rfl rfl rfl ?_
  refine jT_xiload_n (v := (0, x3)) (pcN := 7) jI_347_6 rfl rfl rfl ?_
  exact jT_fX [0, 2, 3, 4, 5, 6, 7, 8, 9, 10, 11, 12] 13 (y := 140) (pcN := 10) (dC := 1) (bc1 := 1) (bc2 := 6) (as := [(4, 0), (0, x1), (0, x2), (0, x3)]) (asC := [(4, 0), (0, x1), (0, x2), (0, x3)]) (LN := [(0, (4, 0)), (1, (0, x1)), (2, (0, x2)), (3, (0, x3)), (4, (4, 1))]) (stN := [(0, 0), (4, 1)]) (hsC := jpA_6) (e := 0) (jA_140_1264 (d := 0) (by omega) (by omega) (by omega)) (by rfl) (by rfl) (by decide +kernel) (by rfl) (by rfl) (by omega) (by omega) (by omega) (by omega) (show _ from ⟨rfl, rfl, rfl⟩)
theorem jI_263_0 : jmI (jm 263) 0 = (.aload_n 0, 1) := by rfl
theorem jI_263_1 : jmI (jm 263) 1 = (.iload_n 1, 1) := by rfl
theorem jI_263_8 : jmI (jm 263) 8 = (.ifCond .ne 40, 3) := by rfl
theorem jI_263_48 : jmI (jm 263) 48 = (.lconst 0, 1) := by rfl
theorem jA_263_1266 {xs : List Int} {d : Nat} {x1 x2 x3 : Int} (h_x1 : (-2147483648) ≤ x1 ∧ x1 ≤ (-1)) (h_x2 : (-2147483648) ≤ x2 ∧ x2 ≤ 2147483647) (h_x3 : (-2147483648) ≤ x3 ∧ x3 ≤ 2147483647) : jT xs (d + 2) 263 16 0 [(0, (4, 0)), (1, (0, x1)), (2, (0, x2)), (3, (0, x3))] [] jpA_22 0 0 (fun k v hsN => k = 0 ∧ v = (1, 0) ∧ hsN = jpA_20) := by
  refine jT_xaload_n (v := (4, 0)) (pcN := 1) jI_263_0 rfl rfl rfl ?_
  refine jT_xiload_n (v := (0, x1)) (pcN := 2) jI_263_1 rfl rfl rfl ?_
  refine jT_fR [] 16 (y := 188) (pcN := 5) (dC := 1) (bc1 := 0) (bc2 := 0) (c1 := 0) (c2 := 0) (as := [(0, x1)]) (asC := [(0, x1)]) (LN := [(0, (4, 0)), (1, (0, x1)), (2, (0, x2)), (3, (0, x3))]) (stN := [(4, 0)]) (hsC := []) (v := (0, 0)) (st2 := [(0, 0), (4, 0)]) (jA_188_4 (d := 0) (by omega)) (by rfl) (by rfl) (by decide +kernel) (by rfl) (by rfl) (by omega) (by omega) (by omega) (by omega) rfl ?_
  refine jT_fB [0, 1, 2, 3, 4, 5, 6, 7, 8, 9, 10, 11, 12, 13, 14, 15] 16 (y := 190) (pcN := 8) (dC := 1) (bc1 := 0) (bc2 := 0) (c1 := 0) (c2 := 0) (as := [(4, 0), (0, 0)]) (asC := [(4, 0), (0, 0)]) (LN := [(0, (4, 0)), (1, (0, x1)), (2, (0, x2)), (3, (0, x3))]) (stN := []) (hsC := jpA_22) (hsD := jpA_20) (v := (0, 1)) (st2 := [(0, 1)]) (hs2 := jpA_20) (jA_190_6 (d := 0)) (by rfl) (by rfl) (by decide +kernel) (by rfl) (by rfl) (by omega) (by omega) (by omega) (by omega) rfl (by decide +kernel) ?_
  refine jT_xifT (pcN := 48) jI_263_8 rfl (by decide +kernel) rfl ?_
  refine jT_xlconst (z := 0) (pcN := 49) jI_263_48 rfl rfl ?_
  exact jT_ret rfl (by decide) (by show 16 ≤ 16; decide) (by omega) (by omega) ⟨rfl, rfl, rfl⟩
theorem jA_116_1267 {xs : List Int} {d : Nat} {x2 : Int} (h_x2 : (-2147483648) ≤ x2 ∧ x2 ≤ (-1)) : jT xs d 116 1 0 [(0, (4, 0)), (1, (0, x2)), (2, (0, 0)), (3, (0, 9))] [] [jgh] 1 6 (fun k v hsN => k = 1 ∧ v = (0, 1) ∧ hsN = [jgh] ++ []) := by
  refine jT_xiload_n (v := (0, x2)) (pcN := 1) jI_116_0 rfl rfl rfl ?_
  refine jT_xiload_n (v := (0, 0)) (pcN := 2) jI_116_1 rfl rfl rfl ?_
  refine jT_icT (a := x2) (b := 0) (t := 10) (by rfl) (by rfl) (by rfl) (jw_idd (by omega) (by omega)) (jw_idd (by omega) (by omega)) (by simp only [jcP] <;> omega) ?_
  exact jT_ret (c1 := 1) (s1 := 6) rfl (by decide) (by show 1 ≤ 1; decide) (by omega) (by omega) ⟨rfl, rfl, rfl⟩
theorem jI_140_7 : jmI (jm 140) 7 = (.aload_n 0, 1) := by rfl
theorem jI_140_8 : jmI (jm 140) 8 = (.iload_n 2, 1) := by rfl
theorem jI_140_9 : jmI (jm 140) 9 = (.iconst 0, 1) := by rfl
theorem jI_140_10 : jmI (jm 140) 10 = (.bipush 9, 2) := by rfl
theorem jA_140_1268 {xs : List Int} {d : Nat} {x1 x2 x3 : Int} (h_x1 : 0 ≤ x1 ∧ x1 ≤ 7) (h_x2 : (-2147483648) ≤ x2 ∧ x2 ≤ (-1)) (h_x3 : (-2147483648) ≤ x3 ∧ x3 ≤ 2147483647) : jT xs (d + 1) 140 12 0 [(0, (4, 0)), (1, (0, x1)), (2, (0, x2)), (3, (0, x3))] [] jpA_6 1 6 (fun k v hsN => k = 1 ∧ v = (0, 1) ∧ hsN = jpA_6 ++ []) := by
  refine jT_xaload_n (v := (4, 0)) (pcN := 1) jI_140_0 rfl rfl rfl ?_
  refine jT_xiload_n (v := (0, x1)) (pcN := 2) jI_140_1 rfl rfl rfl ?_
  refine jT_xbipush (k := 8) (pcN := 4) jI_140_2 (by decide) rfl ?_
  refine jT_fR [0] 12 (y := 115) (pcN := 7) (dC := 0) (bc1 := 0) (bc2 := 0) (c1 := 1) (c2 := 6) (as := [(4, 0), (0, x1), (0, 8)]) (asC := [(4, 0), (0, x1), (0, 8)]) (LN := [(0, (4, 0)), (1, (0, x1)), (2, (0, x2)), (3, (0, x3))]) (stN := []) (hsC := [jgh]) (v := (9, 0)) (st2 := []) (jA_115_9 (d := 0) (by omega)) (by rfl) (by rfl) (by decide +kernel) (by rfl) (by rfl) (by omega) (by omega) (by omega) (by omega) rfl ?_
  refine jT_xaload_n (v := (4, 0)) (pcN := 8) jI_140_7 rfl rfl rfl ?_
  refine jT_xiload_n (v := (0, x2)) (pcN := 9) jI_140_8 rfl rfl rfl ?_
  refine jT_xiconst (k := 0) (pcN := 10) jI_140_9 rfl ?_
  refine jT_xbipush (k := 9) (pcN := 12) jI_140_10 (by decide) rfl ?_
  exact jT_fX [0] 12 (y := 116) (pcN := 15) (dC := 0) (bc1 := 1) (bc2 := 6) (as := [(4, 0), (0, x2), (0, 0), (0, 9)]) (asC := [(4, 0), (0, x2), (0, 0), (0, 9)]) (LN := [(0, (4, 0)), (1, (0, x1)), (2, (0, x2)), (3, (0, x3))]) (stN := []) (hsC := [jgh]) (e := 1) (jA_116_1267 (d := 0) (by omega)) (by rfl) (by rfl) (by decide +kernel) (by rfl) (by rfl) (by omega) (by omega) (by omega) (by omega) ⟨rfl, ⟨rfl, rfl, rfl⟩⟩
theorem jA_347_1269 {xs : List Int} {d : Nat} {x1 x2 x3 : Int} (h_x1 : 0 ≤ x1 ∧ x1 ≤ 7) (h_x2 : (-2147483648) ≤ x2 ∧ x2 ≤ (-1)) (h_x3 : (-2147483648) ≤ x3 ∧ x3 ≤ 2147483647) : jT xs (d + 2) 347 13 0 [(0, (4, 0)), (1, (0, x1)), (2, (0, x2)), (3, (0, x3)), (4, (4, 1))] [] jpA_15 1 6 (fun k v hsN => k = 0 ∧ v = (0, 2) ∧ hsN = jpA_15 ++ []) := by
  refine jT_xaload (v := (4, 1)) (pcN := 2) jI_347_0 rfl rfl rfl ?_
  refine jT_xiconst (k := 0) (pcN := 3) jI_347_2 rfl ?_
  refine jT_xaload_n (v := (4, 0)) (pcN := 4) jI_347_3 rfl rfl rfl ?_
  refine jT_xiload_n (v := (0, x1)) (pcN := 5) jI_347_4 rfl rfl rfl ?_
  refine jT_xiload_n (v := (0, x2)) (pcN := 6) jI_347_5 rfl rfl rfl ?_
  refine jT_xiload_n (v := (0, x3)) (pcN := 7) jI_347_6 rfl rfl rfl ?_
  exact jT_fX [0, 2, 3, 4, 5, 6, 7, 8, 9, 10, 11, 12] 13 (y := 140) (pcN := 10) (dC := 1) (bc1 := 1) (bc2 := 6) (as := [(4, 0), (0, x1), (0, x2), (0, x3)]) (asC := [(4, 0), (0, x1), (0, x2), (0, x3)]) (LN := [(0, (4, 0)), (1, (0, x1)), (2, (0, x2)), (3, (0, x3)), (4, (4, 1))]) (stN := [(0, 0), (4, 1)]) (hsC := jpA_6) (e := 1) (jA_140_1268 (d := 0) (by omega) (by omega) (by omega)) (by rfl) (by rfl) (by decide +kernel) (by rfl) (by rfl) (by omega) (by omega) (by omega) (by omega) (show _ from ⟨rfl, rfl, rfl⟩)
theorem jI_263_11 : jmI (jm 263) 11 = (.aload_n 0, 1) := by rfl
theorem jI_263_12 : jmI (jm 263) 12 = (.iload_n 2, 1) := by rfl
theorem jI_263_13 : jmI (jm 263) 13 = (.i2l, 1) := by rfl
theorem jI_263_14 : jmI (jm 263) 14 = (.lconst 0, 1) := by rfl
theorem jI_263_21 : jmI (jm 263) 21 = (.ifCond .eq 19, 3) := by rfl
theorem jI_263_40 : jmI (jm 263) 40 = (.iconst 0, 1) := by rfl
theorem jI_263_41 : jmI (jm 263) 41 = (.iconst 2, 1) := by rfl
theorem jI_263_45 : jmI (jm 263) 45 = (.ifCond .eq 5, 3) := by rfl
theorem jA_263_1270 {xs : List Int} {d : Nat} {x1 x2 x3 : Int} (h_x1 : 0 ≤ x1 ∧ x1 ≤ 7) (h_x2 : (-2147483648) ≤ x2 ∧ x2 ≤ (-1)) (h_x3 : (-2147483648) ≤ x3 ∧ x3 ≤ 2147483647) : jT xs (d + 2) 263 16 0 [(0, (4, 0)), (1, (0, x1)), (2, (0, x2)), (3, (0, x3))] [] jpA_22 0 0 (fun k v hsN => k = 0 ∧ v = (1, 0) ∧ hsN = jpA_361) := by
  refine jT_xaload_n (v := (4, 0)) (pcN := 1) jI_263_0 rfl rfl rfl ?_
  refine jT_xiload_n (v := (0, x1)) (pcN := 2) jI_263_1 rfl rfl rfl ?_
  refine jT_fR [] 16 (y := 188) (pcN := 5) (dC := 1) (bc1 := 0) (bc2 := 0) (c1 := 0) (c2 := 0) (as := [(0, x1)]) (asC := [(0, x1)]) (LN := [(0, (4, 0)), (1, (0, x1)), (2, (0, x2)), (3, (0, x3))]) (stN := [(4, 0)]) (hsC := []) (v := (0, 1)) (st2 := [(0, 1), (4, 0)]) (jA_188_13 (d := 0) (by omega)) (by rfl) (by rfl) (by decide +kernel) (by rfl) (by rfl) (by omega) (by omega) (by omega) (by omega) rfl ?_
  refine jT_fR [0, 1, 2, 3, 4, 5, 6, 7, 8, 9, 10, 11, 12, 13, 14, 15] 16 (y := 190) (pcN := 8) (dC := 1) (bc1 := 0) (bc2 := 0) (c1 := 0) (c2 := 0) (as := [(4, 0), (0, 1)]) (asC := [(4, 0), (0, 1)]) (LN := [(0, (4, 0)), (1, (0, x1)), (2, (0, x2)), (3, (0, x3))]) (stN := []) (hsC := jpA_22) (v := (0, 0)) (st2 := [(0, 0)]) (jA_190_39 (d := 0)) (by rfl) (by rfl) (by decide +kernel) (by rfl) (by rfl) (by omega) (by omega) (by omega) (by omega) rfl ?_
  refine jT_xifF (t := 48) (pcN := 11) jI_263_8 rfl (by decide +kernel) rfl rfl ?_
  refine jT_xaload_n (v := (4, 0)) (pcN := 12) jI_263_11 rfl rfl rfl ?_
  refine jT_xiload_n (v := (0, x2)) (pcN := 13) jI_263_12 rfl rfl rfl ?_
  refine jT_xi2l (x := x2) (z := x2) (pcN := 14) jI_263_13 rfl (jw_idd (by omega) (by omega)) rfl ?_
  refine jT_xlconst (z := 0) (pcN := 15) jI_263_14 rfl rfl ?_
  refine jT_adv 1 (pcN := 18) (LN := [(0, (4, 0)), (1, (0, x1)), (2, (0, x2)), (3, (0, x3))]) (stN := [(1, 9), (1, 0), (1, x2), (4, 0)]) (hsN := jpA_22) (c1 := 0) (s1 := 0) (c2 := 0) (s2 := 0) (by exact rfl) ?_ (by omega) (by omega)
  refine jT_fR [] 16 (y := 189) (pcN := 21) (dC := 0) (bc1 := 0) (bc2 := 0) (c1 := 0) (c2 := 0) (as := [(1, x2), (1, 0), (1, 9)]) (asC := [(1, x2), (1, 0), (1, 9)]) (LN := [(0, (4, 0)), (1, (0, x1)), (2, (0, x2)), (3, (0, x3))]) (stN := [(4, 0)]) (hsC := []) (v := (0, 0)) (st2 := [(0, 0), (4, 0)]) (jT_in_lo (d := 0) (v := x2) (lo := 0) (hi := 9) (by omega) (by omega) (by omega) (by omega)) (by rfl) (by rfl) (by decide +kernel) (by rfl) (by rfl) (by omega) (by omega) (by omega) (by omega) rfl ?_
  refine jT_xifT (pcN := 40) jI_263_21 rfl (by decide +kernel) rfl ?_
  refine jT_xiconst (k := 0) (pcN := 41) jI_263_40 rfl ?_
  refine jT_xiconst (k := 2) (pcN := 42) jI_263_41 rfl ?_
  refine jT_fB [0, 1, 2, 3, 4, 5, 6, 7, 8, 9, 10, 11, 12, 13, 14, 15] 16 (y := 191) (pcN := 45) (dC := 0) (bc1 := 0) (bc2 := 0) (c1 := 0) (c2 := 0) (as := [(4, 0), (0, 0), (0, 2)]) (asC := [(4, 0), (0, 0), (0, 2)]) (LN := [(0, (4, 0)), (1, (0, x1)), (2, (0, x2)), (3, (0, x3))]) (stN := []) (hsC := jpA_22) (hsD := jpA_361) (v := (0, 1)) (st2 := [(0, 1)]) (hs2 := jpA_361) (jA_191_99 (d := 0)) (by rfl) (by rfl) (by decide +kernel) (by rfl) (by rfl) (by omega) (by omega) (by omega) (by omega) rfl (by decide +kernel) ?_
  refine jT_xifF (t := 50) (pcN := 48) jI_263_45 rfl (by decide +kernel) rfl rfl ?_
  refine jT_xlconst (z := 0) (pcN := 49) jI_263_48 rfl rfl ?_
  exact jT_ret rfl (by decide) (by show 16 ≤ 16; decide) (by omega) (by omega) ⟨rfl, rfl, rfl⟩
theorem jA_116_1271 {xs : List Int} {d : Nat} {x2 : Int} (h_x2 : 0 ≤ x2 ∧ x2 ≤ 9) : jT xs d 116 1 0 [(0, (4, 0)), (1, (0, x2)), (2, (0, 0)), (3, (0, 9))] [] [jgh] 0 0 (fun k v hsN => k = 0 ∧ v = (9, 0) ∧ hsN = [jgh] ++ []) := by
  refine jT_xiload_n (v := (0, x2)) (pcN := 1) jI_116_0 rfl rfl rfl ?_
  refine jT_xiload_n (v := (0, 0)) (pcN := 2) jI_116_1 rfl rfl rfl ?_
  refine jT_icF (a := x2) (b := 0) (t := 10) (by rfl) (by rfl) (by rfl) (jw_idd (by omega) (by omega)) (jw_idd (by omega) (by omega)) (by simp only [jcP] <;> omega) ?_
  refine jT_xiload_n (v := (0, x2)) (pcN := 6) jI_116_5 rfl rfl rfl ?_
  refine jT_xiload_n (v := (0, 9)) (pcN := 7) jI_116_6 rfl rfl rfl ?_
  refine jT_icT (a := x2) (b := 9) (t := 21) (by rfl) (by rfl) (by rfl) (jw_idd (by omega) (by omega)) (jw_idd (by omega) (by omega)) (by simp only [jcP] <;> omega) ?_
  exact jT_ret rfl (by decide) (by show 1 ≤ 1; decide) (by omega) (by omega) ⟨rfl, rfl, rfl⟩
theorem jA_116_1272 {xs : List Int} {d : Nat} {x3 : Int} (h_x3 : (-2147483648) ≤ x3 ∧ x3 ≤ (-1)) : jT xs d 116 1 0 [(0, (4, 0)), (1, (0, x3)), (2, (0, 0)), (3, (0, 2))] [] [jgh] 1 6 (fun k v hsN => k = 1 ∧ v = (0, 1) ∧ hsN = [jgh] ++ []) := by
  refine jT_xiload_n (v := (0, x3)) (pcN := 1) jI_116_0 rfl rfl rfl ?_
  refine jT_xiload_n (v := (0, 0)) (pcN := 2) jI_116_1 rfl rfl rfl ?_
  refine jT_icT (a := x3) (b := 0) (t := 10) (by rfl) (by rfl) (by rfl) (jw_idd (by omega) (by omega)) (jw_idd (by omega) (by omega)) (by simp only [jcP] <;> omega) ?_
  exact jT_ret (c1 := 1) (s1 := 6) rfl (by decide) (by show 1 ≤ 1; decide) (by omega) (by omega) ⟨rfl, rfl, rfl⟩
theorem jI_140_15 : jmI (jm 140) 15 = (.aload_n 0, 1) := by rfl
theorem jI_140_16 : jmI (jm 140) 16 = (.iload_n 3, 1) := by rfl
theorem jI_140_17 : jmI (jm 140) 17 = (.iconst 0, 1) := by rfl
theorem jI_140_18 : jmI (jm 140) 18 = (.iconst 2, 1) := by rfl
theorem jA_140_1273 {xs : List Int} {d : Nat} {x1 x2 x3 : Int} (h_x1 : 0 ≤ x1 ∧ x1 ≤ 7) (h_x2 : 0 ≤ x2 ∧ x2 ≤ 9) (h_x3 : (-2147483648) ≤ x3 ∧ x3 ≤ (-1)) : jT xs (d + 1) 140 12 0 [(0, (4, 0)), (1, (0, x1)), (2, (0, x2)), (3, (0, x3))] [] jpA_6 1 6 (fun k v hsN => k = 1 ∧ v = (0, 1) ∧ hsN = jpA_6 ++ []) := by
  refine jT_xaload_n (v := (4, 0)) (pcN := 1) jI_140_0 rfl rfl rfl ?_
  refine jT_xiload_n (v := (0, x1)) (pcN := 2) jI_140_1 rfl rfl rfl ?_
  refine jT_xbipush (k := 8) (pcN := 4) jI_140_2 (by decide) rfl ?_
  refine jT_fR [0] 12 (y := 115) (pcN := 7) (dC := 0) (bc1 := 0) (bc2 := 0) (c1 := 1) (c2 := 6) (as := [(4, 0), (0, x1), (0, 8)]) (asC := [(4, 0), (0, x1), (0, 8)]) (LN := [(0, (4, 0)), (1, (0, x1)), (2, (0, x2)), (3, (0, x3))]) (stN := []) (hsC := [jgh]) (v := (9, 0)) (st2 := []) (jA_115_9 (d := 0) (by omega)) (by rfl) (by rfl) (by decide +kernel) (by rfl) (by rfl) (by omega) (by omega) (by omega) (by omega) rfl ?_
  refine jT_xaload_n (v := (4, 0)) (pcN := 8) jI_140_7 rfl rfl rfl ?_
  refine jT_xiload_n (v := (0, x2)) (pcN := 9) jI_140_8 rfl rfl rfl ?_
  refine jT_xiconst (k := 0) (pcN := 10) jI_140_9 rfl ?_
  refine jT_xbipush (k := 9) (pcN := 12) jI_140_10 (by decide) rfl ?_
  refine jT_fR [0] 12 (y := 116) (pcN := 15) (dC := 0) (bc1 := 0) (bc2 := 0) (c1 := 1) (c2 := 6) (as := [(4, 0), (0, x2), (0, 0), (0, 9)]) (asC := [(4, 0), (0, x2), (0, 0), (0, 9)]) (LN := [(0, (4, 0)), (1, (0, x1)), (2, (0, x2)), (3, (0, x3))]) (stN := []) (hsC := [jgh]) (v := (9, 0)) (st2 := []) (jA_116_1271 (d := 0) (by omega)) (by rfl) (by rfl) (by decide +kernel) (by rfl) (by rfl) (by omega) (by omega) (by omega) (by omega) rfl ?_
  refine jT_xaload_n (v := (4, 0)) (pcN := 16) jI_140_15 rfl rfl rfl ?_
  refine jT_xiload_n (v := (0, x3)) (pcN := 17) jI_140_16 rfl rfl rfl ?_
  refine jT_xiconst (k := 0) (pcN := 18) jI_140_17 rfl ?_
  refine jT_xiconst (k := 2) (pcN := 19) jI_140_18 rfl ?_
  exact jT_fX [0] 12 (y := 116) (pcN := 22) (dC := 0) (bc1 := 1) (bc2 := 6) (as := [(4, 0), (0, x3), (0, 0), (0, 2)]) (asC := [(4, 0), (0, x3), (0, 0), (0, 2)]) (LN := [(0, (4, 0)), (1, (0, x1)), (2, (0, x2)), (3, (0, x3))]) (stN := []) (hsC := [jgh]) (e := 1) (jA_116_1272 (d := 0) (by omega)) (by rfl) (by rfl) (by decide +kernel) (by rfl) (by rfl) (by omega) (by omega) (by omega) (by omega) ⟨rfl, ⟨rfl, rfl, rfl⟩⟩
theorem jA_347_1274 {xs : List Int} {d : Nat} {x1 x2 x3 : Int} (h_x1 : 0 ≤ x1 ∧ x1 ≤ 7) (h_x2 : 0 ≤ x2 ∧ x2 ≤ 9) (h_x3 : (-2147483648) ≤ x3 ∧ x3 ≤ (-1)) : jT xs (d + 2) 347 13 0 [(0, (4, 0)), (1, (0, x1)), (2, (0, x2)), (3, (0, x3)), (4, (4, 1))] [] jpA_15 1 6 (fun k v hsN => k = 0 ∧ v = (0, 2) ∧ hsN = jpA_15 ++ []) := by
  refine jT_xaload (v := (4, 1)) (pcN := 2) jI_347_0 rfl rfl rfl ?_
  refine jT_xiconst (k := 0) (pcN := 3) jI_347_2 rfl ?_
  refine jT_xaload_n (v := (4, 0)) (pcN := 4) jI_347_3 rfl rfl rfl ?_
  refine jT_xiload_n (v := (0, x1)) (pcN := 5) jI_347_4 rfl rfl rfl ?_
  refine jT_xiload_n (v := (0, x2)) (pcN := 6) jI_347_5 rfl rfl rfl ?_
  refine jT_xiload_n (v := (0, x3)) (pcN := 7) jI_347_6 rfl rfl rfl ?_
  exact jT_fX [0, 2, 3, 4, 5, 6, 7, 8, 9, 10, 11, 12] 13 (y := 140) (pcN := 10) (dC := 1) (bc1 := 1) (bc2 := 6) (as := [(4, 0), (0, x1), (0, x2), (0, x3)]) (asC := [(4, 0), (0, x1), (0, x2), (0, x3)]) (LN := [(0, (4, 0)), (1, (0, x1)), (2, (0, x2)), (3, (0, x3)), (4, (4, 1))]) (stN := [(0, 0), (4, 1)]) (hsC := jpA_6) (e := 1) (jA_140_1273 (d := 0) (by omega) (by omega) (by omega)) (by rfl) (by rfl) (by decide +kernel) (by rfl) (by rfl) (by omega) (by omega) (by omega) (by omega) (show _ from ⟨rfl, rfl, rfl⟩)
theorem jI_263_24 : jmI (jm 263) 24 = (.iload_n 3, 1) := by rfl
theorem jI_263_25 : jmI (jm 263) 25 = (.i2l, 1) := by rfl
theorem jI_263_26 : jmI (jm 263) 26 = (.lconst 0, 1) := by rfl
theorem jI_263_33 : jmI (jm 263) 33 = (.ifCond .eq 7, 3) := by rfl
theorem jA_263_1275 {xs : List Int} {d : Nat} {x1 x2 x3 : Int} (h_x1 : 0 ≤ x1 ∧ x1 ≤ 7) (h_x2 : 0 ≤ x2 ∧ x2 ≤ 9) (h_x3 : (-2147483648) ≤ x3 ∧ x3 ≤ (-1)) : jT xs (d + 2) 263 16 0 [(0, (4, 0)), (1, (0, x1)), (2, (0, x2)), (3, (0, x3))] [] jpA_22 0 0 (fun k v hsN => k = 0 ∧ v = (1, 0) ∧ hsN = jpA_361) := by
  refine jT_xaload_n (v := (4, 0)) (pcN := 1) jI_263_0 rfl rfl rfl ?_
  refine jT_xiload_n (v := (0, x1)) (pcN := 2) jI_263_1 rfl rfl rfl ?_
  refine jT_fR [] 16 (y := 188) (pcN := 5) (dC := 1) (bc1 := 0) (bc2 := 0) (c1 := 0) (c2 := 0) (as := [(0, x1)]) (asC := [(0, x1)]) (LN := [(0, (4, 0)), (1, (0, x1)), (2, (0, x2)), (3, (0, x3))]) (stN := [(4, 0)]) (hsC := []) (v := (0, 1)) (st2 := [(0, 1), (4, 0)]) (jA_188_13 (d := 0) (by omega)) (by rfl) (by rfl) (by decide +kernel) (by rfl) (by rfl) (by omega) (by omega) (by omega) (by omega) rfl ?_
  refine jT_fR [0, 1, 2, 3, 4, 5, 6, 7, 8, 9, 10, 11, 12, 13, 14, 15] 16 (y := 190) (pcN := 8) (dC := 1) (bc1 := 0) (bc2 := 0) (c1 := 0) (c2 := 0) (as := [(4, 0), (0, 1)]) (asC := [(4, 0), (0, 1)]) (LN := [(0, (4, 0)), (1, (0, x1)), (2, (0, x2)), (3, (0, x3))]) (stN := []) (hsC := jpA_22) (v := (0, 0)) (st2 := [(0, 0)]) (jA_190_39 (d := 0)) (by rfl) (by rfl) (by decide +kernel) (by rfl) (by rfl) (by omega) (by omega) (by omega) (by omega) rfl ?_
  refine jT_xifF (t := 48) (pcN := 11) jI_263_8 rfl (by decide +kernel) rfl rfl ?_
  refine jT_xaload_n (v := (4, 0)) (pcN := 12) jI_263_11 rfl rfl rfl ?_
  refine jT_xiload_n (v := (0, x2)) (pcN := 13) jI_263_12 rfl rfl rfl ?_
  refine jT_xi2l (x := x2) (z := x2) (pcN := 14) jI_263_13 rfl (jw_idd (by omega) (by omega)) rfl ?_
  refine jT_xlconst (z := 0) (pcN := 15) jI_263_14 rfl rfl ?_
  refine jT_adv 1 (pcN := 18) (LN := [(0, (4, 0)), (1, (0, x1)), (2, (0, x2)), (3, (0, x3))]) (stN := [(1, 9), (1, 0), (1, x2), (4, 0)]) (hsN := jpA_22) (c1 := 0) (s1 := 0) (c2 := 0) (s2 := 0) (by exact rfl) ?_ (by omega) (by omega)
  refine jT_fR [] 16 (y := 189) (pcN := 21) (dC := 0) (bc1 := 0) (bc2 := 0) (c1 := 0) (c2 := 0) (as := [(1, x2), (1, 0), (1, 9)]) (asC := [(1, x2), (1, 0), (1, 9)]) (LN := [(0, (4, 0)), (1, (0, x1)), (2, (0, x2)), (3, (0, x3))]) (stN := [(4, 0)]) (hsC := []) (v := (0, 1)) (st2 := [(0, 1), (4, 0)]) (jT_in_ok (d := 0) (v := x2) (lo := 0) (hi := 9) (by omega) (by omega) (by omega) (by omega) (by omega)) (by rfl) (by rfl) (by decide +kernel) (by rfl) (by rfl) (by omega) (by omega) (by omega) (by omega) rfl ?_
  refine jT_xifF (t := 40) (pcN := 24) jI_263_21 rfl (by decide +kernel) rfl rfl ?_
  refine jT_xiload_n (v := (0, x3)) (pcN := 25) jI_263_24 rfl rfl rfl ?_
  refine jT_xi2l (x := x3) (z := x3) (pcN := 26) jI_263_25 rfl (jw_idd (by omega) (by omega)) rfl ?_
  refine jT_xlconst (z := 0) (pcN := 27) jI_263_26 rfl rfl ?_
  refine jT_adv 1 (pcN := 30) (LN := [(0, (4, 0)), (1, (0, x1)), (2, (0, x2)), (3, (0, x3))]) (stN := [(1, 2), (1, 0), (1, x3), (4, 0)]) (hsN := jpA_22) (c1 := 0) (s1 := 0) (c2 := 0) (s2 := 0) (by exact rfl) ?_ (by omega) (by omega)
  refine jT_fR [] 16 (y := 189) (pcN := 33) (dC := 0) (bc1 := 0) (bc2 := 0) (c1 := 0) (c2 := 0) (as := [(1, x3), (1, 0), (1, 2)]) (asC := [(1, x3), (1, 0), (1, 2)]) (LN := [(0, (4, 0)), (1, (0, x1)), (2, (0, x2)), (3, (0, x3))]) (stN := [(4, 0)]) (hsC := []) (v := (0, 0)) (st2 := [(0, 0), (4, 0)]) (jT_in_lo (d := 0) (v := x3) (lo := 0) (hi := 2) (by omega) (by omega) (by omega) (by omega)) (by rfl) (by rfl) (by decide +kernel) (by rfl) (by rfl) (by omega) (by omega) (by omega) (by omega) rfl ?_
  refine jT_xifT (pcN := 40) jI_263_33 rfl (by decide +kernel) rfl ?_
  refine jT_xiconst (k := 0) (pcN := 41) jI_263_40 rfl ?_
  refine jT_xiconst (k := 2) (pcN := 42) jI_263_41 rfl ?_
  refine jT_fB [0, 1, 2, 3, 4, 5, 6, 7, 8, 9, 10, 11, 12, 13, 14, 15] 16 (y := 191) (pcN := 45) (dC := 0) (bc1 := 0) (bc2 := 0) (c1 := 0) (c2 := 0) (as := [(4, 0), (0, 0), (0, 2)]) (asC := [(4, 0), (0, 0), (0, 2)]) (LN := [(0, (4, 0)), (1, (0, x1)), (2, (0, x2)), (3, (0, x3))]) (stN := []) (hsC := jpA_22) (hsD := jpA_361) (v := (0, 1)) (st2 := [(0, 1)]) (hs2 := jpA_361) (jA_191_99 (d := 0)) (by rfl) (by rfl) (by decide +kernel) (by rfl) (by rfl) (by omega) (by omega) (by omega) (by omega) rfl (by decide +kernel) ?_
  refine jT_xifF (t := 50) (pcN := 48) jI_263_45 rfl (by decide +kernel) rfl rfl ?_
  refine jT_xlconst (z := 0) (pcN := 49) jI_263_48 rfl rfl ?_
  exact jT_ret rfl (by decide) (by show 16 ≤ 16; decide) (by omega) (by omega) ⟨rfl, rfl, rfl⟩
theorem jA_116_1276 {xs : List Int} {d : Nat} {x3 : Int} (h_x3 : 0 ≤ x3 ∧ x3 ≤ 2) : jT xs d 116 1 0 [(0, (4, 0)), (1, (0, x3)), (2, (0, 0)), (3, (0, 2))] [] [jgh] 0 0 (fun k v hsN => k = 0 ∧ v = (9, 0) ∧ hsN = [jgh] ++ []) := by
  refine jT_xiload_n (v := (0, x3)) (pcN := 1) jI_116_0 rfl rfl rfl ?_
  refine jT_xiload_n (v := (0, 0)) (pcN := 2) jI_116_1 rfl rfl rfl ?_
  refine jT_icF (a := x3) (b := 0) (t := 10) (by rfl) (by rfl) (by rfl) (jw_idd (by omega) (by omega)) (jw_idd (by omega) (by omega)) (by simp only [jcP] <;> omega) ?_
  refine jT_xiload_n (v := (0, x3)) (pcN := 6) jI_116_5 rfl rfl rfl ?_
  refine jT_xiload_n (v := (0, 2)) (pcN := 7) jI_116_6 rfl rfl rfl ?_
  refine jT_icT (a := x3) (b := 2) (t := 21) (by rfl) (by rfl) (by rfl) (jw_idd (by omega) (by omega)) (jw_idd (by omega) (by omega)) (by simp only [jcP] <;> omega) ?_
  exact jT_ret rfl (by decide) (by show 1 ≤ 1; decide) (by omega) (by omega) ⟨rfl, rfl, rfl⟩
theorem jA_116_1277 {xs : List Int} {d : Nat} : jT xs d 116 1 0 [(0, (4, 0)), (1, (0, 0)), (2, (0, 0)), (3, (0, 9))] [] [jgh] 0 0 (fun k v hsN => k = 0 ∧ v = (9, 0) ∧ hsN = [jgh] ++ []) := by
  refine jT_advK 6 (pcN := 21) (LN := [(0, (4, 0)), (1, (0, 0)), (2, (0, 0)), (3, (0, 9))]) (stN := []) (hsN := [jgh]) (c1 := 0) (s1 := 0) (c2 := 0) (s2 := 0) (by decide +kernel) ?_ (by omega) (by omega)
  exact jT_ret rfl (by decide) (by show 1 ≤ 1; decide) (by omega) (by omega) ⟨rfl, rfl, rfl⟩
theorem jA_116_1278 {xs : List Int} {d : Nat} {x3 : Int} (h_x3 : 0 ≤ x3 ∧ x3 ≤ 1) : jT xs d 116 1 0 [(0, (4, 0)), (1, (0, x3)), (2, (0, 0)), (3, (0, 2))] [] [jgh] 0 0 (fun k v hsN => k = 0 ∧ v = (9, 0) ∧ hsN = [jgh] ++ []) := by
  refine jT_xiload_n (v := (0, x3)) (pcN := 1) jI_116_0 rfl rfl rfl ?_
  refine jT_xiload_n (v := (0, 0)) (pcN := 2) jI_116_1 rfl rfl rfl ?_
  refine jT_icF (a := x3) (b := 0) (t := 10) (by rfl) (by rfl) (by rfl) (jw_idd (by omega) (by omega)) (jw_idd (by omega) (by omega)) (by simp only [jcP] <;> omega) ?_
  refine jT_xiload_n (v := (0, x3)) (pcN := 6) jI_116_5 rfl rfl rfl ?_
  refine jT_xiload_n (v := (0, 2)) (pcN := 7) jI_116_6 rfl rfl rfl ?_
  refine jT_icT (a := x3) (b := 2) (t := 21) (by rfl) (by rfl) (by rfl) (jw_idd (by omega) (by omega)) (jw_idd (by omega) (by omega)) (by simp only [jcP] <;> omega) ?_
  exact jT_ret rfl (by decide) (by show 1 ≤ 1; decide) (by omega) (by omega) ⟨rfl, rfl, rfl⟩
theorem jA_116_1279 {xs : List Int} {d : Nat} : jT xs d 116 1 0 [(0, (4, 0)), (1, (0, 0)), (2, (0, 0)), (3, (0, 2))] [] [jgh] 0 0 (fun k v hsN => k = 0 ∧ v = (9, 0) ∧ hsN = [jgh] ++ []) := by
  refine jT_advK 6 (pcN := 21) (LN := [(0, (4, 0)), (1, (0, 0)), (2, (0, 0)), (3, (0, 2))]) (stN := []) (hsN := [jgh]) (c1 := 0) (s1 := 0) (c2 := 0) (s2 := 0) (by decide +kernel) ?_ (by omega) (by omega)
  exact jT_ret rfl (by decide) (by show 1 ≤ 1; decide) (by omega) (by omega) ⟨rfl, rfl, rfl⟩
theorem jA_45_1280 {xs : List Int} {d : Nat} : jT xs (d + 1) 45 4 0 [(0, (4, 0)), (1, (4, 1)), (2, (1, 1)), (4, (1, 1200))] [] jpA_625 0 0 (fun k v hsN => k = 0 ∧ v = (1, 0) ∧ hsN = jpA_625 ++ []) := by
  refine jT_advK 10 (pcN := 17) (LN := [(0, (4, 0)), (1, (4, 1)), (2, (1, 1)), (4, (1, 1200))]) (stN := [(4, 1), (4, 0)]) (hsN := jpA_625) (c1 := 0) (s1 := 0) (c2 := 0) (s2 := 0) (by decide +kernel) ?_ (by omega) (by omega)
  refine jT_fR [0, 1] 4 (y := 39) (pcN := 20) (dC := 0) (bc1 := 0) (bc2 := 0) (c1 := 0) (c2 := 0) (as := [(4, 0), (4, 1)]) (asC := [(4, 0), (4, 1)]) (LN := [(0, (4, 0)), (1, (4, 1)), (2, (1, 1)), (4, (1, 1200))]) (stN := []) (hsC := [jgh, (101, [], [0, 0, 0, 0, 0, 0])]) (v := (1, 0)) (st2 := [(1, 0)]) (jA_39_144 (d := 0)) (by rfl) (by rfl) (by decide +kernel) (by rfl) (by rfl) (by omega) (by omega) (by omega) (by omega) rfl ?_
  refine jT_advK 11 (pcN := 36) (LN := [(6, (1, 0)), (0, (4, 0)), (1, (4, 1)), (2, (1, 1)), (4, (1, 1200))]) (stN := [(1, 1), (1, 0)]) (hsN := jpA_625) (c1 := 0) (s1 := 0) (c2 := 0) (s2 := 0) (by decide +kernel) ?_ (by omega) (by omega)
  refine jT_fR [] 4 (y := 373) (pcN := 39) (dC := 0) (bc1 := 0) (bc2 := 0) (c1 := 0) (c2 := 0) (as := [(1, 0), (1, 1)]) (asC := [(1, 0), (1, 1)]) (LN := [(6, (1, 0)), (0, (4, 0)), (1, (4, 1)), (2, (1, 1)), (4, (1, 1200))]) (stN := []) (hsC := []) (v := (1, 0)) (st2 := [(1, 0)]) (jA_373_145 (d := 0)) (by rfl) (by rfl) (by decide +kernel) (by rfl) (by rfl) (by omega) (by omega) (by omega) (by omega) rfl ?_
  exact jT_ret rfl (by decide) (by show 4 ≤ 4; decide) (by omega) (by omega) ⟨rfl, rfl, rfl⟩
theorem jA_44_1281 {xs : List Int} {d : Nat} : jT xs (d + 2) 44 5 0 [(0, (4, 0)), (1, (4, 1)), (2, (1, 1200))] [] jpA_626 0 0 (fun k v hsN => k = 0 ∧ v = (1, 0) ∧ hsN = jpA_626 ++ []) := by
  refine jT_advK 6 (pcN := 10) (LN := [(0, (4, 0)), (1, (4, 1)), (2, (1, 1200))]) (stN := [(1, 1200), (1, 1), (4, 4), (4, 0)]) (hsN := jpA_626) (c1 := 0) (s1 := 0) (c2 := 0) (s2 := 0) (by decide +kernel) ?_ (by omega) (by omega)
  refine jT_fR [0, 4, 2, 3] 5 (y := 45) (pcN := 13) (dC := 1) (bc1 := 0) (bc2 := 0) (c1 := 0) (c2 := 0) (as := [(4, 0), (4, 4), (1, 1), (1, 1200)]) (asC := [(4, 0), (4, 1), (1, 1), (1, 1200)]) (LN := [(0, (4, 0)), (1, (4, 1)), (2, (1, 1200))]) (stN := []) (hsC := jpA_625) (v := (1, 0)) (st2 := [(1, 0)]) (jA_45_1280 (d := 0)) (by rfl) (by rfl) (by decide +kernel) (by rfl) (by rfl) (by omega) (by omega) (by omega) (by omega) rfl ?_
  exact jT_ret rfl (by decide) (by show 5 ≤ 5; decide) (by omega) (by omega) ⟨rfl, rfl, rfl⟩
def jpA_4325 : List JC := [jzA_14, (4, [(4, 13), (1, 1)], []), (8, [(4, 14), (4, 15)], []), jgh, jgh, jgh, jgh, jgh, jgh, jgh, jgh, jgh, jgh, (101, [], [0, 0, 0, 0, 0, 0]), jgh, jgh]
theorem jA_108_1282 {xs : List Int} {d : Nat} : jT xs (d + 3) 108 16 0 [(0, (4, 0)), (1, (4, 1)), (2, (0, 0)), (3, (0, 0))] [] jpA_4325 0 0 (fun k v hsN => k = 0 ∧ v = (1, 0) ∧ hsN = jpA_4325 ++ []) := by
  refine jT_advK 16 (pcN := 55) (LN := [(6, (0, 0)), (4, (1, 1200)), (0, (4, 0)), (1, (4, 1)), (2, (0, 0)), (3, (0, 0))]) (stN := [(1, 1200), (4, 1), (4, 2)]) (hsN := jpA_4325) (c1 := 0) (s1 := 0) (c2 := 0) (s2 := 0) (by decide +kernel) ?_ (by omega) (by omega)
  refine jT_fR [2, 1, 14, 15, 13] 16 (y := 44) (pcN := 58) (dC := 2) (bc1 := 0) (bc2 := 0) (c1 := 0) (c2 := 0) (as := [(4, 2), (4, 1), (1, 1200)]) (asC := [(4, 0), (4, 1), (1, 1200)]) (LN := [(6, (0, 0)), (4, (1, 1200)), (0, (4, 0)), (1, (4, 1)), (2, (0, 0)), (3, (0, 0))]) (stN := []) (hsC := jpA_626) (v := (1, 0)) (st2 := [(1, 0)]) (jA_44_1281 (d := 0)) (by rfl) (by rfl) (by decide +kernel) (by rfl) (by rfl) (by omega) (by omega) (by omega) (by omega) rfl ?_
  exact jT_ret rfl (by decide) (by show 16 ≤ 16; decide) (by omega) (by omega) ⟨rfl, rfl, rfl⟩
theorem jI_140_22 : jmI (jm 140) 22 = (.aload_n 0, 1) := by rfl
theorem jI_140_23 : jmI (jm 140) 23 = (.aload_n 0, 1) := by rfl
theorem jI_140_24 : jmI (jm 140) 24 = (.getfield 67, 3) := by rfl
theorem jI_140_27 : jmI (jm 140) 27 = (.iload_n 1, 1) := by rfl
theorem jI_140_31 : jmI (jm 140) 31 = (.iload_n 2, 1) := by rfl
theorem jI_140_32 : jmI (jm 140) 32 = (.iload_n 3, 1) := by rfl
theorem jA_140_1283 {xs : List Int} {d : Nat} {x1 : Int} (h_x1 : 0 ≤ x1 ∧ x1 ≤ 7) : jT xs (d + 4) 140 21 0 [(0, (4, 0)), (1, (0, x1)), (2, (0, 0)), (3, (0, 0))] [] jpA_3958 0 0 (fun k v hsN => k = 0 ∧ v = (1, 0) ∧ hsN = jpA_3958 ++ []) := by
  refine jT_xaload_n (v := (4, 0)) (pcN := 1) jI_140_0 rfl rfl rfl ?_
  refine jT_xiload_n (v := (0, x1)) (pcN := 2) jI_140_1 rfl rfl rfl ?_
  refine jT_xbipush (k := 8) (pcN := 4) jI_140_2 (by decide) rfl ?_
  refine jT_fR [0] 21 (y := 115) (pcN := 7) (dC := 0) (bc1 := 0) (bc2 := 0) (c1 := 0) (c2 := 0) (as := [(4, 0), (0, x1), (0, 8)]) (asC := [(4, 0), (0, x1), (0, 8)]) (LN := [(0, (4, 0)), (1, (0, x1)), (2, (0, 0)), (3, (0, 0))]) (stN := []) (hsC := [jgh]) (v := (9, 0)) (st2 := []) (jA_115_9 (d := 0) (by omega)) (by rfl) (by rfl) (by decide +kernel) (by rfl) (by rfl) (by omega) (by omega) (by omega) (by omega) rfl ?_
  refine jT_xaload_n (v := (4, 0)) (pcN := 8) jI_140_7 rfl rfl rfl ?_
  refine jT_xiload_n (v := (0, 0)) (pcN := 9) jI_140_8 rfl rfl rfl ?_
  refine jT_xiconst (k := 0) (pcN := 10) jI_140_9 rfl ?_
  refine jT_xbipush (k := 9) (pcN := 12) jI_140_10 (by decide) rfl ?_
  refine jT_fR [0] 21 (y := 116) (pcN := 15) (dC := 0) (bc1 := 0) (bc2 := 0) (c1 := 0) (c2 := 0) (as := [(4, 0), (0, 0), (0, 0), (0, 9)]) (asC := [(4, 0), (0, 0), (0, 0), (0, 9)]) (LN := [(0, (4, 0)), (1, (0, x1)), (2, (0, 0)), (3, (0, 0))]) (stN := []) (hsC := [jgh]) (v := (9, 0)) (st2 := []) (jA_116_1277 (d := 0)) (by rfl) (by rfl) (by decide +kernel) (by rfl) (by rfl) (by omega) (by omega) (by omega) (by omega) rfl ?_
  refine jT_xaload_n (v := (4, 0)) (pcN := 16) jI_140_15 rfl rfl rfl ?_
  refine jT_xiload_n (v := (0, 0)) (pcN := 17) jI_140_16 rfl rfl rfl ?_
  refine jT_xiconst (k := 0) (pcN := 18) jI_140_17 rfl ?_
  refine jT_xiconst (k := 2) (pcN := 19) jI_140_18 rfl ?_
  refine jT_fR [0] 21 (y := 116) (pcN := 22) (dC := 0) (bc1 := 0) (bc2 := 0) (c1 := 0) (c2 := 0) (as := [(4, 0), (0, 0), (0, 0), (0, 2)]) (asC := [(4, 0), (0, 0), (0, 0), (0, 2)]) (LN := [(0, (4, 0)), (1, (0, x1)), (2, (0, 0)), (3, (0, 0))]) (stN := []) (hsC := [jgh]) (v := (9, 0)) (st2 := []) (jA_116_1279 (d := 0)) (by rfl) (by rfl) (by decide +kernel) (by rfl) (by rfl) (by omega) (by omega) (by omega) (by omega) rfl ?_
  refine jT_xaload_n (v := (4, 0)) (pcN := 23) jI_140_22 rfl rfl rfl ?_
  refine jT_xaload_n (v := (4, 0)) (pcN := 24) jI_140_23 rfl rfl rfl ?_
  refine jT_xgetf (a := 0) (t := 1) (ci := 13) (fi := 11) (c := jzA_5) (v := (4, 11)) (pcN := 27) jI_140_24 rfl rfl rfl rfl rfl rfl rfl ?_
  refine jT_xiload_n (v := (0, x1)) (pcN := 28) jI_140_27 rfl rfl rfl ?_
  refine jT_fR [11, 14, 15, 16, 17, 18, 19] 21 (y := 57) (pcN := 31) (dC := 0) (bc1 := 0) (bc2 := 0) (c1 := 0) (c2 := 0) (as := [(4, 11), (0, x1)]) (asC := [(4, 0), (0, x1)]) (LN := [(0, (4, 0)), (1, (0, x1)), (2, (0, 0)), (3, (0, 0))]) (stN := [(4, 0)]) (hsC := jpA_47) (v := (4, 6)) (st2 := [(4, 19), (4, 0)]) (jA_57_108 (d := 0) (by omega)) (by rfl) (by rfl) (by decide +kernel) (by rfl) (by rfl) (by omega) (by omega) (by omega) (by omega) rfl ?_
  refine jT_xiload_n (v := (0, 0)) (pcN := 32) jI_140_31 rfl rfl rfl ?_
  refine jT_xiload_n (v := (0, 0)) (pcN := 33) jI_140_32 rfl rfl rfl ?_
  refine jT_fR [0, 19, 1, 2, 3, 4, 5, 6, 7, 8, 9, 10, 11, 20, 12, 13] 21 (y := 108) (pcN := 36) (dC := 3) (bc1 := 0) (bc2 := 0) (c1 := 0) (c2 := 0) (as := [(4, 0), (4, 19), (0, 0), (0, 0)]) (asC := [(4, 0), (4, 1), (0, 0), (0, 0)]) (LN := [(0, (4, 0)), (1, (0, x1)), (2, (0, 0)), (3, (0, 0))]) (stN := []) (hsC := jpA_4325) (v := (1, 0)) (st2 := [(1, 0)]) (jA_108_1282 (d := 0)) (by rfl) (by rfl) (by decide +kernel) (by rfl) (by rfl) (by omega) (by omega) (by omega) (by omega) rfl ?_
  exact jT_ret rfl (by decide) (by show 21 ≤ 21; decide) (by omega) (by omega) ⟨rfl, rfl, rfl⟩
theorem jI_347_11 : jmI (jm 347) 11 = (.goto 11, 3) := by rfl
theorem jI_347_22 : jmI (jm 347) 22 = (.iconst 0, 1) := by rfl
theorem jA_347_1284 {xs : List Int} {d : Nat} {x1 : Int} (h_x1 : 0 ≤ x1 ∧ x1 ≤ 7) : jT xs (d + 5) 347 22 0 [(0, (4, 0)), (1, (0, x1)), (2, (0, 0)), (3, (0, 0)), (4, (4, 1))] [] jpA_4038 0 0 (fun k v hsN => k = 0 ∧ v = (0, 0) ∧ hsN = jpA_4038 ++ []) := by
  refine jT_xaload (v := (4, 1)) (pcN := 2) jI_347_0 rfl rfl rfl ?_
  refine jT_xiconst (k := 0) (pcN := 3) jI_347_2 rfl ?_
  refine jT_xaload_n (v := (4, 0)) (pcN := 4) jI_347_3 rfl rfl rfl ?_
  refine jT_xiload_n (v := (0, x1)) (pcN := 5) jI_347_4 rfl rfl rfl ?_
  refine jT_xiload_n (v := (0, 0)) (pcN := 6) jI_347_5 rfl rfl rfl ?_
  refine jT_xiload_n (v := (0, 0)) (pcN := 7) jI_347_6 rfl rfl rfl ?_
  refine jT_fR [0, 2, 3, 4, 5, 6, 7, 8, 9, 10, 11, 12, 13, 14, 15, 16, 17, 18, 19, 20, 21] 22 (y := 140) (pcN := 10) (dC := 4) (bc1 := 0) (bc2 := 0) (c1 := 0) (c2 := 0) (as := [(4, 0), (0, x1), (0, 0), (0, 0)]) (asC := [(4, 0), (0, x1), (0, 0), (0, 0)]) (LN := [(0, (4, 0)), (1, (0, x1)), (2, (0, 0)), (3, (0, 0)), (4, (4, 1))]) (stN := [(0, 0), (4, 1)]) (hsC := jpA_3958) (v := (1, 0)) (st2 := [(1, 0), (0, 0), (4, 1)]) (jA_140_1283 (d := 0) (by omega)) (by rfl) (by rfl) (by decide +kernel) (by rfl) (by rfl) (by omega) (by omega) (by omega) (by omega) rfl ?_
  refine jT_adv 1 (pcN := 11) (LN := [(0, (4, 0)), (1, (0, x1)), (2, (0, 0)), (3, (0, 0)), (4, (4, 1))]) (stN := []) (hsN := jpA_4038) (c1 := 0) (s1 := 0) (c2 := 0) (s2 := 0) (by exact rfl) ?_ (by omega) (by omega)
  refine jT_xgoto (pcN := 22) jI_347_11 rfl ?_
  refine jT_xiconst (k := 0) (pcN := 23) jI_347_22 rfl ?_
  exact jT_ret rfl (by decide) (by show 22 ≤ 22; decide) (by omega) (by omega) ⟨rfl, rfl, rfl⟩
theorem jA_189_1285 {xs : List Int} {d : Nat} : jT xs d 189 0 0 [(0, (1, 0)), (2, (1, 0)), (4, (1, 9))] [] [] 0 0 (fun k v hsN => k = 0 ∧ v = (0, 1) ∧ hsN = [] ++ []) := by
  refine jT_advK 10 (pcN := 18) (LN := [(0, (1, 0)), (2, (1, 0)), (4, (1, 9))]) (stN := [(0, 1)]) (hsN := []) (c1 := 0) (s1 := 0) (c2 := 0) (s2 := 0) (by decide +kernel) ?_ (by omega) (by omega)
  exact jT_ret rfl (by decide) (by show 0 ≤ 0; decide) (by omega) (by omega) ⟨rfl, rfl, rfl⟩
theorem jA_189_1286 {xs : List Int} {d : Nat} : jT xs d 189 0 0 [(0, (1, 0)), (2, (1, 0)), (4, (1, 2))] [] [] 0 0 (fun k v hsN => k = 0 ∧ v = (0, 1) ∧ hsN = [] ++ []) := by
  refine jT_advK 10 (pcN := 18) (LN := [(0, (1, 0)), (2, (1, 0)), (4, (1, 2))]) (stN := [(0, 1)]) (hsN := []) (c1 := 0) (s1 := 0) (c2 := 0) (s2 := 0) (by decide +kernel) ?_ (by omega) (by omega)
  exact jT_ret rfl (by decide) (by show 0 ≤ 0; decide) (by omega) (by omega) ⟨rfl, rfl, rfl⟩
theorem jA_264_1287 {xs : List Int} {d : Nat} : jT xs d 264 0 0 [(0, (0, 0))] [] [] 0 0 (fun k v hsN => k = 0 ∧ v = (1, 1) ∧ hsN = [] ++ []) := by
  refine jT_advK 8 (pcN := 22) (LN := [(3, (0, 0)), (1, (1, 1)), (0, (0, 0))]) (stN := [(1, 1)]) (hsN := []) (c1 := 0) (s1 := 0) (c2 := 0) (s2 := 0) (by decide +kernel) ?_ (by omega) (by omega)
  exact jT_ret rfl (by decide) (by show 0 ≤ 0; decide) (by omega) (by omega) ⟨rfl, rfl, rfl⟩
def jpA_4334 : List JC := [jzA_670, (101, [], [0, 0, 0, 0, 0, 0]), jgh, jgh, jgh, jgh, jgh, jgh, jgh, jgh, jgh, jgh, jgh, jgh, jgh, jgh, jgh, (101, [], [0, 0, 0, 0, 0, 0])]
def jpA_4335 : List JC := [jzA_670, (101, [], [0, 0, 0, 0, 0, 0]), jgh, jgh, jgh, jgh, jgh, jgh, jgh, jgh, jgh, jgh, jgh, jgh, jgh, jgh, jgh]
theorem jA_212_1288 {xs : List Int} {d : Nat} : jT xs (d + 2) 212 17 0 [(0, (4, 0)), (1, (4, 1)), (2, (1, 0))] [] jpA_4335 1 6 (fun k v hsN => k = 0 ∧ v = (0, 0) ∧ hsN = jpA_4335 ++ [(101, [], [0, 0, 0, 0, 0, 0])]) := by
  refine jT_advK 18 (pcN := 27) (LN := [(4, (4, 17)), (0, (4, 0)), (1, (4, 1)), (2, (1, 0))]) (stN := [(4, 17), (4, 0)]) (hsN := jpA_4334) (c1 := 1) (s1 := 6) (c2 := 0) (s2 := 0) (by decide +kernel) ?_ (by omega) (by omega)
  refine jT_fR [0, 17] 18 (y := 213) (pcN := 30) (dC := 1) (bc1 := 0) (bc2 := 0) (c1 := 0) (c2 := 0) (as := [(4, 0), (4, 17)]) (asC := [(4, 0), (4, 1)]) (LN := [(4, (4, 17)), (0, (4, 0)), (1, (4, 1)), (2, (1, 0))]) (stN := []) (hsC := [jgh, (101, [], [0, 0, 0, 0, 0, 0])]) (v := (0, 0)) (st2 := [(0, 0)]) (jA_213_152 (d := 0)) (by rfl) (by rfl) (by decide +kernel) (by rfl) (by rfl) (by omega) (by omega) (by omega) (by omega) rfl ?_
  exact jT_ret rfl (by decide) (by show 17 ≤ 18; decide) (by omega) (by omega) ⟨rfl, rfl, rfl⟩
def jpA_4336 : List JC := [jzA_670, (101, [], [0, 0, 0, 0, 0, 0]), jgh, jgh, jgh, jgh, jgh, (130, [], [17, 18, 19, 20, 21, 22]), jgh, jgh, jgh, jgh, jgh, jgh, jgh, jgh, jgh, (100, [], (jenc (jlg 0))), jgh, jgh, jgh, jgh, jgh, (101, [], [(-1), 0, 0, 0, 0, 0])]
def jpA_4337 : List JC := [jzA_670, (101, [], [0, 0, 0, 0, 0, 0]), jgh, jgh, jgh, jgh, jgh, (130, [], [17, 18, 19, 20, 21, 22]), jgh, jgh, jgh, jgh, jgh, jgh, jgh, jgh, jgh, (100, [], (jenc (jlg 0))), jgh, jgh, jgh, jgh, jgh, (101, [], [(-1), 0, 0, 0, 0, 0]), (100, [], (jenc 0)), (100, [], (jenc (-1))), (100, [], (jenc ((-1) * (jlg 0))))]
theorem jA_212_1289 {xs : List Int} {d : Nat} : jT xs (d + 4) 212 23 0 [(0, (4, 0)), (1, (4, 1)), (2, (1, 1))] [] jpA_987 4 174 (fun k v hsN => k = 0 ∧ v = (0, (-1)) ∧ hsN = jpA_987 ++ jpA_680) := by
  refine jT_advK 18 (pcN := 27) (LN := [(4, (4, 23)), (0, (4, 0)), (1, (4, 1)), (2, (1, 1))]) (stN := [(4, 23), (4, 0)]) (hsN := jpA_4336) (c1 := 1) (s1 := 6) (c2 := 3) (s2 := 168) (by decide +kernel) ?_ (by omega) (by omega)
  refine jT_fA [0, 23, 2, 3, 4, 5, 6, 7, 8, 9, 10, 11, 12, 13, 14, 15, 16, 17, 18, 19, 20, 21, 22] 24 (y := 213) (pcN := 30) (dC := 3) (bc1 := 3) (bc2 := 168) (c1 := 0) (c2 := 0) (as := [(4, 0), (4, 23)]) (asC := [(4, 0), (4, 1)]) (LN := [(4, (4, 23)), (0, (4, 0)), (1, (4, 1)), (2, (1, 1))]) (stN := []) (hsC := jpA_675) (ex := [(100, [], (jenc 0)), (100, [], (jenc (-1))), (100, [], (jenc ((-1) * (jlg 0))))]) (v := (0, (-1))) (st2 := [(0, (-1))]) (hs2 := jpA_4337) (jA_213_156 (d := 0)) (by rfl) (by rfl) (by decide +kernel) (by rfl) (by rfl) (by omega) (by omega) (by omega) (by omega) rfl (by decide +kernel) ?_
  exact jT_ret rfl (by decide) (by show 23 ≤ 27; decide) (by omega) (by omega) ⟨rfl, rfl, rfl⟩
def jpA_4338 : List JC := [jzA_670, (101, [], [0, 0, 0, 0, 0, 0]), jgh, jgh, jgh, jgh, jgh, (130, [], [17, 18, 19, 20, 21, 22]), jgh, jgh, jgh, jgh, jgh, jgh, jgh, jgh, jgh, (100, [], (jenc (jlg 0))), jgh, jgh, jgh, jgh, jgh, (101, [], [0, 0, 0, 0, 0, 0])]
def jpA_4339 : List JC := [jzA_670, (101, [], [0, 0, 0, 0, 0, 0]), jgh, jgh, jgh, jgh, jgh, (130, [], [17, 18, 19, 20, 21, 22]), jgh, jgh, jgh, jgh, jgh, jgh, jgh, jgh, jgh, (100, [], (jenc (jlg 0))), jgh, jgh, jgh, jgh, jgh, (101, [], [0, 0, 0, 0, 0, 0]), (101, [], [(-1), 0, 0, 0, 0, 0]), (100, [], (jenc 0)), (100, [], (jenc (-1))), (100, [], (jenc ((-1) * (jlg 0))))]
theorem jA_210_1290 {xs : List Int} {d : Nat} : jT xs (d + 5) 210 23 0 [(0, (4, 0)), (1, (4, 1)), (2, (1, 1))] [] jpA_987 5 180 (fun k v hsN => k = 0 ∧ v = (1, 0) ∧ hsN = jpA_987 ++ jpA_683) := by
  refine jT_advK 1 (pcN := 1) (LN := [(0, (4, 0)), (1, (4, 1)), (2, (1, 1))]) (stN := [(4, 1)]) (hsN := jpA_987) (c1 := 0) (s1 := 0) (c2 := 5) (s2 := 180) (by decide +kernel) ?_ (by omega) (by omega)
  refine jT_fR [1] 23 (y := 211) (pcN := 4) (dC := 0) (bc1 := 0) (bc2 := 0) (c1 := 5) (c2 := 180) (as := [(4, 1)]) (asC := [(4, 0)]) (LN := [(0, (4, 0)), (1, (4, 1)), (2, (1, 1))]) (stN := []) (hsC := [(101, [], [0, 0, 0, 0, 0, 0])]) (v := (3, 0)) (st2 := [(3, 0)]) (jA_211_151 (d := 0)) (by rfl) (by rfl) (by decide +kernel) (by rfl) (by rfl) (by omega) (by omega) (by omega) (by omega) rfl ?_
  refine jT_advK 1 (pcN := 5) (LN := [(0, (4, 0)), (1, (4, 1)), (2, (1, 1))]) (stN := [(1, 1), (3, 0)]) (hsN := jpA_987) (c1 := 0) (s1 := 0) (c2 := 5) (s2 := 180) (by decide +kernel) ?_ (by omega) (by omega)
  refine jT_l2d (x := 1) (z := 4607182418800017408) (by rfl) (by rfl) (by decide +kernel) ?_
  refine jT_ddiv (x := 0) (y := 4607182418800017408) (z := 0) (by rfl) (by rfl) (by decide +kernel) ?_
  refine jT_d2l (x := 0) (z := 0) (by rfl) (by rfl) (by decide +kernel) ?_
  refine jT_advK 6 (pcN := 16) (LN := [(4, (1, 0)), (0, (4, 0)), (1, (4, 1)), (2, (1, 1))]) (stN := [(1, 0), (4, 1), (4, 0)]) (hsN := jpA_987) (c1 := 0) (s1 := 0) (c2 := 5) (s2 := 180) (by decide +kernel) ?_ (by omega) (by omega)
  refine jT_fA [0, 1, 2, 3, 4, 5, 6, 7, 8, 9, 10, 11, 12, 13, 14, 15, 16] 23 (y := 212) (pcN := 19) (dC := 2) (bc1 := 1) (bc2 := 6) (c1 := 4) (c2 := 174) (as := [(4, 0), (4, 1), (1, 0)]) (asC := [(4, 0), (4, 1), (1, 0)]) (LN := [(4, (1, 0)), (0, (4, 0)), (1, (4, 1)), (2, (1, 1))]) (stN := []) (hsC := jpA_4335) (ex := [(101, [], [0, 0, 0, 0, 0, 0])]) (v := (0, 0)) (st2 := [(0, 0)]) (hs2 := jpA_4338) (jA_212_1288 (d := 0)) (by rfl) (by rfl) (by decide +kernel) (by rfl) (by rfl) (by omega) (by omega) (by omega) (by omega) rfl (by decide +kernel) ?_
  refine jT_advK 8 (pcN := 39) (LN := [(4, (1, 0)), (0, (4, 0)), (1, (4, 1)), (2, (1, 1))]) (stN := [(1, 1), (4, 1), (4, 0)]) (hsN := jpA_4338) (c1 := 0) (s1 := 0) (c2 := 4) (s2 := 174) (by decide +kernel) ?_ (by omega) (by omega)
  refine jT_fA [0, 1, 2, 3, 4, 5, 6, 7, 8, 9, 10, 11, 12, 13, 14, 15, 16, 17, 18, 19, 20, 21, 22] 24 (y := 212) (pcN := 42) (dC := 4) (bc1 := 4) (bc2 := 174) (c1 := 0) (c2 := 0) (as := [(4, 0), (4, 1), (1, 1)]) (asC := [(4, 0), (4, 1), (1, 1)]) (LN := [(4, (1, 0)), (0, (4, 0)), (1, (4, 1)), (2, (1, 1))]) (stN := []) (hsC := jpA_987) (ex := jpA_680) (v := (0, (-1))) (st2 := [(0, (-1))]) (hs2 := jpA_4339) (jA_212_1289 (d := 0)) (by rfl) (by rfl) (by decide +kernel) (by rfl) (by rfl) (by omega) (by omega) (by omega) (by omega) rfl (by decide +kernel) ?_
  refine jT_advK 2 (pcN := 56) (LN := [(4, (1, 0)), (0, (4, 0)), (1, (4, 1)), (2, (1, 1))]) (stN := [(1, 0)]) (hsN := jpA_4339) (c1 := 0) (s1 := 0) (c2 := 0) (s2 := 0) (by decide +kernel) ?_ (by omega) (by omega)
  exact jT_ret rfl (by decide) (by show 23 ≤ 28; decide) (by omega) (by omega) ⟨rfl, rfl, rfl⟩
def jpA_4340 : List JC := [jzA_21, jgh, jgh, jgh, jgh, jgh, (130, [], [16, 17, 18, 19, 20, 21]), (101, [], [0, 0, 0, 0, 0, 0]), jgh, jgh, jgh, jgh, jgh, jgh, jgh, jgh, (100, [], (jenc (jlg 0))), jgh, jgh, jgh, jgh, jgh, (101, [], [0, 0, 0, 0, 0, 0]), (101, [], [0, 0, 0, 0, 0, 0]), (101, [], [(-1), 0, 0, 0, 0, 0]), (100, [], (jenc 0)), (100, [], (jenc (-1))), (100, [], (jenc ((-1) * (jlg 0))))]
def jpA_4341 : List JC := [(101, [], [0, 0, 0, 0, 0, 0]), (101, [], [0, 0, 0, 0, 0, 0]), (101, [], [(-1), 0, 0, 0, 0, 0]), (100, [], (jenc 0)), (100, [], (jenc (-1))), (100, [], (jenc ((-1) * (jlg 0))))]
theorem jA_265_1291 {xs : List Int} {d : Nat} : jT xs (d + 6) 265 22 0 [(0, (4, 0)), (1, (1, 1)), (3, (0, 0))] [] jpA_684 6 186 (fun k v hsN => k = 0 ∧ v = (1, 0) ∧ hsN = jpA_684 ++ jpA_4341) := by
  refine jT_advK 4 (pcN := 6) (LN := [(0, (4, 0)), (1, (1, 1)), (3, (0, 0))]) (stN := [(1, 1200), (4, 0)]) (hsN := jpA_684) (c1 := 0) (s1 := 0) (c2 := 6) (s2 := 186) (by decide +kernel) ?_ (by omega) (by omega)
  refine jT_fA [0, 1, 2, 3, 4, 5, 6, 7, 8, 9, 10, 11, 12, 13, 14, 15] 22 (y := 218) (pcN := 9) (dC := 0) (bc1 := 1) (bc2 := 6) (c1 := 5) (c2 := 180) (as := [(4, 0), (1, 1200)]) (asC := [(4, 0), (1, 1200)]) (LN := [(0, (4, 0)), (1, (1, 1)), (3, (0, 0))]) (stN := []) (hsC := jpA_147) (ex := [(101, [], [0, 0, 0, 0, 0, 0])]) (v := (4, 16)) (st2 := [(4, 22)]) (hs2 := jpA_3652) (jA_218_968 (d := 0)) (by rfl) (by rfl) (by decide +kernel) (by rfl) (by rfl) (by omega) (by omega) (by omega) (by omega) rfl (by decide +kernel) ?_
  refine jT_advK 8 (pcN := 34) (LN := [(4, (4, 22)), (0, (4, 0)), (1, (1, 1)), (3, (0, 0))]) (stN := [(1, 1), (4, 22), (4, 0)]) (hsN := jpA_3652) (c1 := 0) (s1 := 0) (c2 := 5) (s2 := 180) (by decide +kernel) ?_ (by omega) (by omega)
  refine jT_fA [0, 22, 1, 2, 3, 4, 5, 6, 7, 8, 9, 10, 11, 12, 13, 14, 15, 16, 17, 18, 19, 20, 21] 23 (y := 210) (pcN := 37) (dC := 5) (bc1 := 5) (bc2 := 180) (c1 := 0) (c2 := 0) (as := [(4, 0), (4, 22), (1, 1)]) (asC := [(4, 0), (4, 1), (1, 1)]) (LN := [(4, (4, 22)), (0, (4, 0)), (1, (1, 1)), (3, (0, 0))]) (stN := []) (hsC := jpA_987) (ex := jpA_683) (v := (1, 0)) (st2 := [(1, 0)]) (hs2 := jpA_4340) (jA_210_1290 (d := 0)) (by rfl) (by rfl) (by decide +kernel) (by rfl) (by rfl) (by omega) (by omega) (by omega) (by omega) rfl (by decide +kernel) ?_
  refine jT_advK 5 (pcN := 68) (LN := [(5, (1, 0)), (4, (4, 22)), (0, (4, 0)), (1, (1, 1)), (3, (0, 0))]) (stN := [(1, 0)]) (hsN := jpA_4340) (c1 := 0) (s1 := 0) (c2 := 0) (s2 := 0) (by decide +kernel) ?_ (by omega) (by omega)
  exact jT_ret rfl (by decide) (by show 22 ≤ 28; decide) (by omega) (by omega) ⟨rfl, rfl, rfl⟩
theorem jI_263_36 : jmI (jm 263) 36 = (.iconst 1, 1) := by rfl
theorem jI_263_37 : jmI (jm 263) 37 = (.goto 4, 3) := by rfl
theorem jI_263_50 : jmI (jm 263) 50 = (.aload_n 0, 1) := by rfl
theorem jI_263_51 : jmI (jm 263) 51 = (.iload_n 1, 1) := by rfl
theorem jI_263_55 : jmI (jm 263) 55 = (.aload_n 0, 1) := by rfl
theorem jI_263_56 : jmI (jm 263) 56 = (.iload_n 2, 1) := by rfl
theorem jI_263_60 : jmI (jm 263) 60 = (.iload_n 3, 1) := by rfl
def jpA_4349 : List JC := [jzA_21, (100, [], jS0), jgh, jgh, jgh, jgh, (130, [], [16, 17, 18, 19, 20, 21]), (101, [], [0, 0, 0, 0, 0, 0]), jgh, jgh, jgh, jgh, jgh, jgh, jgh, jgh, (100, [], (jenc (jlg 0))), jgh, jgh, jgh, jgh, jgh, (101, [], [0, 0, 0, 0, 0, 0]), (101, [], [0, 0, 0, 0, 0, 0]), (101, [], [(-1), 0, 0, 0, 0, 0]), (100, [], (jenc 0)), (100, [], (jenc (-1))), (100, [], (jenc ((-1) * (jlg 0))))]
theorem jA_263_1292 {xs : List Int} {d : Nat} {x1 : Int} (h_x1 : 0 ≤ x1 ∧ x1 ≤ 7) : jT xs (d + 7) 263 22 0 [(0, (4, 0)), (1, (0, x1)), (2, (0, 0)), (3, (0, 0))] [] jpA_1695 6 186 (fun k v hsN => k = 0 ∧ v = (1, 0) ∧ hsN = jpA_1695 ++ jpA_4341) := by
  refine jT_xaload_n (v := (4, 0)) (pcN := 1) jI_263_0 rfl rfl rfl ?_
  refine jT_xiload_n (v := (0, x1)) (pcN := 2) jI_263_1 rfl rfl rfl ?_
  refine jT_fR [] 22 (y := 188) (pcN := 5) (dC := 1) (bc1 := 0) (bc2 := 0) (c1 := 6) (c2 := 186) (as := [(0, x1)]) (asC := [(0, x1)]) (LN := [(0, (4, 0)), (1, (0, x1)), (2, (0, 0)), (3, (0, 0))]) (stN := [(4, 0)]) (hsC := []) (v := (0, 1)) (st2 := [(0, 1), (4, 0)]) (jA_188_13 (d := 0) (by omega)) (by rfl) (by rfl) (by decide +kernel) (by rfl) (by rfl) (by omega) (by omega) (by omega) (by omega) rfl ?_
  refine jT_fR [0, 1, 2, 3, 4, 5, 6, 7, 8, 9, 10, 11, 12, 13, 14, 15] 22 (y := 190) (pcN := 8) (dC := 1) (bc1 := 0) (bc2 := 0) (c1 := 6) (c2 := 186) (as := [(4, 0), (0, 1)]) (asC := [(4, 0), (0, 1)]) (LN := [(0, (4, 0)), (1, (0, x1)), (2, (0, 0)), (3, (0, 0))]) (stN := []) (hsC := jpA_22) (v := (0, 0)) (st2 := [(0, 0)]) (jA_190_39 (d := 0)) (by rfl) (by rfl) (by decide +kernel) (by rfl) (by rfl) (by omega) (by omega) (by omega) (by omega) rfl ?_
  refine jT_xifF (t := 48) (pcN := 11) jI_263_8 rfl (by decide +kernel) rfl rfl ?_
  refine jT_xaload_n (v := (4, 0)) (pcN := 12) jI_263_11 rfl rfl rfl ?_
  refine jT_xiload_n (v := (0, 0)) (pcN := 13) jI_263_12 rfl rfl rfl ?_
  refine jT_xi2l (x := 0) (z := 0) (pcN := 14) jI_263_13 rfl (by decide +kernel) rfl ?_
  refine jT_xlconst (z := 0) (pcN := 15) jI_263_14 rfl rfl ?_
  refine jT_adv 1 (pcN := 18) (LN := [(0, (4, 0)), (1, (0, x1)), (2, (0, 0)), (3, (0, 0))]) (stN := [(1, 9), (1, 0), (1, 0), (4, 0)]) (hsN := jpA_1695) (c1 := 0) (s1 := 0) (c2 := 6) (s2 := 186) (by exact rfl) ?_ (by omega) (by omega)
  refine jT_fR [] 22 (y := 189) (pcN := 21) (dC := 0) (bc1 := 0) (bc2 := 0) (c1 := 6) (c2 := 186) (as := [(1, 0), (1, 0), (1, 9)]) (asC := [(1, 0), (1, 0), (1, 9)]) (LN := [(0, (4, 0)), (1, (0, x1)), (2, (0, 0)), (3, (0, 0))]) (stN := [(4, 0)]) (hsC := []) (v := (0, 1)) (st2 := [(0, 1), (4, 0)]) (jA_189_1285 (d := 0)) (by rfl) (by rfl) (by decide +kernel) (by rfl) (by rfl) (by omega) (by omega) (by omega) (by omega) rfl ?_
  refine jT_xifF (t := 40) (pcN := 24) jI_263_21 rfl (by decide +kernel) rfl rfl ?_
  refine jT_xiload_n (v := (0, 0)) (pcN := 25) jI_263_24 rfl rfl rfl ?_
  refine jT_xi2l (x := 0) (z := 0) (pcN := 26) jI_263_25 rfl (by decide +kernel) rfl ?_
  refine jT_xlconst (z := 0) (pcN := 27) jI_263_26 rfl rfl ?_
  refine jT_adv 1 (pcN := 30) (LN := [(0, (4, 0)), (1, (0, x1)), (2, (0, 0)), (3, (0, 0))]) (stN := [(1, 2), (1, 0), (1, 0), (4, 0)]) (hsN := jpA_1695) (c1 := 0) (s1 := 0) (c2 := 6) (s2 := 186) (by exact rfl) ?_ (by omega) (by omega)
  refine jT_fR [] 22 (y := 189) (pcN := 33) (dC := 0) (bc1 := 0) (bc2 := 0) (c1 := 6) (c2 := 186) (as := [(1, 0), (1, 0), (1, 2)]) (asC := [(1, 0), (1, 0), (1, 2)]) (LN := [(0, (4, 0)), (1, (0, x1)), (2, (0, 0)), (3, (0, 0))]) (stN := [(4, 0)]) (hsC := []) (v := (0, 1)) (st2 := [(0, 1), (4, 0)]) (jA_189_1286 (d := 0)) (by rfl) (by rfl) (by decide +kernel) (by rfl) (by rfl) (by omega) (by omega) (by omega) (by omega) rfl ?_
  refine jT_xifF (t := 40) (pcN := 36) jI_263_33 rfl (by decide +kernel) rfl rfl ?_
  refine jT_xiconst (k := 1) (pcN := 37) jI_263_36 rfl ?_
  refine jT_xgoto (pcN := 41) jI_263_37 rfl ?_
  refine jT_xiconst (k := 2) (pcN := 42) jI_263_41 rfl ?_
  refine jT_fR [0] 22 (y := 191) (pcN := 45) (dC := 0) (bc1 := 0) (bc2 := 0) (c1 := 6) (c2 := 186) (as := [(4, 0), (0, 1), (0, 2)]) (asC := [(4, 0), (0, 1), (0, 2)]) (LN := [(0, (4, 0)), (1, (0, x1)), (2, (0, 0)), (3, (0, 0))]) (stN := []) (hsC := [jgh]) (v := (0, 0)) (st2 := [(0, 0)]) (jA_191_49 (d := 0)) (by rfl) (by rfl) (by decide +kernel) (by rfl) (by rfl) (by omega) (by omega) (by omega) (by omega) rfl ?_
  refine jT_xifT (pcN := 50) jI_263_45 rfl (by decide +kernel) rfl ?_
  refine jT_xaload_n (v := (4, 0)) (pcN := 51) jI_263_50 rfl rfl rfl ?_
  refine jT_xiload_n (v := (0, x1)) (pcN := 52) jI_263_51 rfl rfl rfl ?_
  refine jT_fR [0, 1, 2, 3, 4, 5, 6, 7, 8, 9, 10, 11, 12, 13, 14, 15] 22 (y := 202) (pcN := 55) (dC := 1) (bc1 := 0) (bc2 := 0) (c1 := 6) (c2 := 186) (as := [(4, 0), (0, x1)]) (asC := [(4, 0), (0, x1)]) (LN := [(0, (4, 0)), (1, (0, x1)), (2, (0, 0)), (3, (0, 0))]) (stN := []) (hsC := jpA_130) (v := (9, 0)) (st2 := []) (jA_202_115 (d := 0) (by omega)) (by rfl) (by rfl) (by decide +kernel) (by rfl) (by rfl) (by omega) (by omega) (by omega) (by omega) rfl ?_
  refine jT_xaload_n (v := (4, 0)) (pcN := 56) jI_263_55 rfl rfl rfl ?_
  refine jT_xiload_n (v := (0, 0)) (pcN := 57) jI_263_56 rfl rfl rfl ?_
  refine jT_fR [] 22 (y := 264) (pcN := 60) (dC := 0) (bc1 := 0) (bc2 := 0) (c1 := 6) (c2 := 186) (as := [(0, 0)]) (asC := [(0, 0)]) (LN := [(0, (4, 0)), (1, (0, x1)), (2, (0, 0)), (3, (0, 0))]) (stN := [(4, 0)]) (hsC := []) (v := (1, 1)) (st2 := [(1, 1), (4, 0)]) (jA_264_1287 (d := 0)) (by rfl) (by rfl) (by decide +kernel) (by rfl) (by rfl) (by omega) (by omega) (by omega) (by omega) rfl ?_
  refine jT_xiload_n (v := (0, 0)) (pcN := 61) jI_263_60 rfl rfl rfl ?_
  refine jT_fA [0, 1, 2, 3, 4, 5, 6, 7, 8, 9, 10, 11, 12, 13, 14, 15, 16, 17, 18, 19, 20, 21] 22 (y := 265) (pcN := 64) (dC := 6) (bc1 := 6) (bc2 := 186) (c1 := 0) (c2 := 0) (as := [(4, 0), (1, 1), (0, 0)]) (asC := [(4, 0), (1, 1), (0, 0)]) (LN := [(0, (4, 0)), (1, (0, x1)), (2, (0, 0)), (3, (0, 0))]) (stN := []) (hsC := jpA_684) (ex := jpA_4341) (v := (1, 0)) (st2 := [(1, 0)]) (hs2 := jpA_4349) (jA_265_1291 (d := 0)) (by rfl) (by rfl) (by decide +kernel) (by rfl) (by rfl) (by omega) (by omega) (by omega) (by omega) rfl (by decide +kernel) ?_
  exact jT_ret rfl (by decide) (by show 22 ≤ 28; decide) (by omega) (by omega) ⟨rfl, rfl, rfl⟩
theorem jA_116_1293 {xs : List Int} {d : Nat} : jT xs d 116 1 0 [(0, (4, 0)), (1, (0, 1)), (2, (0, 0)), (3, (0, 2))] [] [jgh] 0 0 (fun k v hsN => k = 0 ∧ v = (9, 0) ∧ hsN = [jgh] ++ []) := by
  refine jT_advK 6 (pcN := 21) (LN := [(0, (4, 0)), (1, (0, 1)), (2, (0, 0)), (3, (0, 2))]) (stN := []) (hsN := [jgh]) (c1 := 0) (s1 := 0) (c2 := 0) (s2 := 0) (by decide +kernel) ?_ (by omega) (by omega)
  exact jT_ret rfl (by decide) (by show 1 ≤ 1; decide) (by omega) (by omega) ⟨rfl, rfl, rfl⟩
theorem jA_10_1294 {xs : List Int} {d : Nat} : jT xs (d + 2) 10 2 0 [(0, (4, 0)), (1, (1, (-1))), (3, (1, 1)), (5, (1, 0))] [] [(4, [(4, 1), (1, 1)], []), (101, [], [0, 0, 0, 0, 0, 0])] 2 8 (fun k v hsN => k = 0 ∧ v = (4, 3) ∧ hsN = [(4, [(4, 1), (1, 1)], []), (101, [], [0, 0, 0, 0, 0, 0])] ++ [(101, [], [0, 0, 0, 0, 0, 0]), (4, [(4, 2), (1, 1)], [])]) := by
  refine jT_advK 111 (pcN := 64) (LN := [(8, (0, 6)), (7, (4, 2)), (0, (4, 0)), (1, (1, (-1))), (3, (1, 1)), (5, (1, 0))]) (stN := [(1, 1), (4, 2), (4, 3), (4, 3)]) (hsN := jpA_48) (c1 := 2) (s1 := 8) (c2 := 0) (s2 := 0) (by decide +kernel) ?_ (by omega) (by omega)
  refine jT_fB [3, 2] 4 (y := 9) (pcN := 67) (dC := 1) (bc1 := 0) (bc2 := 0) (c1 := 0) (c2 := 0) (as := [(4, 3), (4, 2), (1, 1)]) (asC := [(4, 0), (4, 1), (1, 1)]) (LN := [(8, (0, 6)), (7, (4, 2)), (0, (4, 0)), (1, (1, (-1))), (3, (1, 1)), (5, (1, 0))]) (stN := [(4, 3)]) (hsC := [(4, [(4, (-1)), (1, 0)], []), (101, [], [0, 0, 0, 0, 0, 0])]) (hsD := [(4, [(4, 1), (1, 1)], []), (101, [], [0, 0, 0, 0, 0, 0])]) (v := (9, 0)) (st2 := [(4, 3)]) (hs2 := jpA_49) (jA_9_27 (d := 0)) (by rfl) (by rfl) (by decide +kernel) (by rfl) (by rfl) (by omega) (by omega) (by omega) (by omega) rfl (by decide +kernel) ?_
  exact jT_ret rfl (by decide) (by show 2 ≤ 4; decide) (by omega) (by omega) ⟨rfl, rfl, rfl⟩
def jpA_4350 : List JC := [jzA_14, (4, [(4, 13), (1, 1)], []), (8, [(4, 14), (4, 15)], []), jgh, jgh, jgh, jgh, jgh, jgh, jgh, jgh, jgh, jgh, (101, [], [0, 0, 0, 0, 0, 0]), jgh, jgh, (101, [], [0, 0, 0, 0, 0, 0]), (4, [(4, 16), (1, 1)], [])]
theorem jA_108_1295 {xs : List Int} {d : Nat} : jT xs (d + 3) 108 16 0 [(0, (4, 0)), (1, (4, 1)), (2, (0, 0)), (3, (0, 1))] [] jpA_4325 2 8 (fun k v hsN => k = 0 ∧ v = (1, 0) ∧ hsN = jpA_4325 ++ [(101, [], [0, 0, 0, 0, 0, 0]), (4, [(4, 16), (1, 1)], [])]) := by
  refine jT_advK 18 (pcN := 69) (LN := [(6, (0, 0)), (4, (1, 1200)), (0, (4, 0)), (1, (4, 1)), (2, (0, 0)), (3, (0, 1))]) (stN := [(1, 0), (1, 1), (1, (-1)), (4, 1), (4, 2)]) (hsN := jpA_4325) (c1 := 0) (s1 := 0) (c2 := 2) (s2 := 8) (by decide +kernel) ?_ (by omega) (by omega)
  refine jT_fA [1, 13] 16 (y := 10) (pcN := 72) (dC := 2) (bc1 := 2) (bc2 := 8) (c1 := 0) (c2 := 0) (as := [(4, 1), (1, (-1)), (1, 1), (1, 0)]) (asC := [(4, 0), (1, (-1)), (1, 1), (1, 0)]) (LN := [(6, (0, 0)), (4, (1, 1200)), (0, (4, 0)), (1, (4, 1)), (2, (0, 0)), (3, (0, 1))]) (stN := [(4, 2)]) (hsC := [(4, [(4, 1), (1, 1)], []), (101, [], [0, 0, 0, 0, 0, 0])]) (ex := [(101, [], [0, 0, 0, 0, 0, 0]), (4, [(4, 2), (1, 1)], [])]) (v := (4, 3)) (st2 := [(4, 17), (4, 2)]) (hs2 := jpA_4350) (jA_10_1294 (d := 0)) (by rfl) (by rfl) (by decide +kernel) (by rfl) (by rfl) (by omega) (by omega) (by omega) (by omega) rfl (by decide +kernel) ?_
  refine jT_advK 1 (pcN := 74) (LN := [(6, (0, 0)), (4, (1, 1200)), (0, (4, 0)), (1, (4, 1)), (2, (0, 0)), (3, (0, 1))]) (stN := [(1, 1200), (4, 17), (4, 2)]) (hsN := jpA_4350) (c1 := 0) (s1 := 0) (c2 := 0) (s2 := 0) (by decide +kernel) ?_ (by omega) (by omega)
  refine jT_fR [2, 17, 14, 15, 16] 18 (y := 44) (pcN := 77) (dC := 2) (bc1 := 0) (bc2 := 0) (c1 := 0) (c2 := 0) (as := [(4, 2), (4, 17), (1, 1200)]) (asC := [(4, 0), (4, 1), (1, 1200)]) (LN := [(6, (0, 0)), (4, (1, 1200)), (0, (4, 0)), (1, (4, 1)), (2, (0, 0)), (3, (0, 1))]) (stN := []) (hsC := jpA_626) (v := (1, 0)) (st2 := [(1, 0)]) (jA_44_1281 (d := 0)) (by rfl) (by rfl) (by decide +kernel) (by rfl) (by rfl) (by omega) (by omega) (by omega) (by omega) rfl ?_
  refine jT_advK 1 (pcN := 78) (LN := [(6, (0, 0)), (4, (1, 1200)), (0, (4, 0)), (1, (4, 1)), (2, (0, 0)), (3, (0, 1))]) (stN := [(1, 0)]) (hsN := jpA_4350) (c1 := 0) (s1 := 0) (c2 := 0) (s2 := 0) (by decide +kernel) ?_ (by omega) (by omega)
  exact jT_ret rfl (by decide) (by show 16 ≤ 18; decide) (by omega) (by omega) ⟨rfl, rfl, rfl⟩
def jpA_4351 : List JC := [jzA_5, (8, [(4, 12), (4, 13)], []), jgh, jgh, jgh, jgh, jgh, jgh, jgh, jgh, jgh, jzA_640, jgh, jgh, jzA_641, jgh, jgh, jgh, jgh, (4, [(4, 20), (1, 1)], []), (101, [], [0, 0, 0, 0, 0, 0]), (101, [], [0, 0, 0, 0, 0, 0]), (4, [(4, 21), (1, 1)], [])]
theorem jA_140_1296 {xs : List Int} {d : Nat} {x1 : Int} (h_x1 : 0 ≤ x1 ∧ x1 ≤ 7) : jT xs (d + 4) 140 21 0 [(0, (4, 0)), (1, (0, x1)), (2, (0, 0)), (3, (0, 1))] [] jpA_3958 2 8 (fun k v hsN => k = 0 ∧ v = (1, 0) ∧ hsN = jpA_3958 ++ [(101, [], [0, 0, 0, 0, 0, 0]), (4, [(4, 21), (1, 1)], [])]) := by
  refine jT_xaload_n (v := (4, 0)) (pcN := 1) jI_140_0 rfl rfl rfl ?_
  refine jT_xiload_n (v := (0, x1)) (pcN := 2) jI_140_1 rfl rfl rfl ?_
  refine jT_xbipush (k := 8) (pcN := 4) jI_140_2 (by decide) rfl ?_
  refine jT_fR [0] 21 (y := 115) (pcN := 7) (dC := 0) (bc1 := 0) (bc2 := 0) (c1 := 2) (c2 := 8) (as := [(4, 0), (0, x1), (0, 8)]) (asC := [(4, 0), (0, x1), (0, 8)]) (LN := [(0, (4, 0)), (1, (0, x1)), (2, (0, 0)), (3, (0, 1))]) (stN := []) (hsC := [jgh]) (v := (9, 0)) (st2 := []) (jA_115_9 (d := 0) (by omega)) (by rfl) (by rfl) (by decide +kernel) (by rfl) (by rfl) (by omega) (by omega) (by omega) (by omega) rfl ?_
  refine jT_xaload_n (v := (4, 0)) (pcN := 8) jI_140_7 rfl rfl rfl ?_
  refine jT_xiload_n (v := (0, 0)) (pcN := 9) jI_140_8 rfl rfl rfl ?_
  refine jT_xiconst (k := 0) (pcN := 10) jI_140_9 rfl ?_
  refine jT_xbipush (k := 9) (pcN := 12) jI_140_10 (by decide) rfl ?_
  refine jT_fR [0] 21 (y := 116) (pcN := 15) (dC := 0) (bc1 := 0) (bc2 := 0) (c1 := 2) (c2 := 8) (as := [(4, 0), (0, 0), (0, 0), (0, 9)]) (asC := [(4, 0), (0, 0), (0, 0), (0, 9)]) (LN := [(0, (4, 0)), (1, (0, x1)), (2, (0, 0)), (3, (0, 1))]) (stN := []) (hsC := [jgh]) (v := (9, 0)) (st2 := []) (jA_116_1277 (d := 0)) (by rfl) (by rfl) (by decide +kernel) (by rfl) (by rfl) (by omega) (by omega) (by omega) (by omega) rfl ?_
  refine jT_xaload_n (v := (4, 0)) (pcN := 16) jI_140_15 rfl rfl rfl ?_
  refine jT_xiload_n (v := (0, 1)) (pcN := 17) jI_140_16 rfl rfl rfl ?_
  refine jT_xiconst (k := 0) (pcN := 18) jI_140_17 rfl ?_
  refine jT_xiconst (k := 2) (pcN := 19) jI_140_18 rfl ?_
  refine jT_fR [0] 21 (y := 116) (pcN := 22) (dC := 0) (bc1 := 0) (bc2 := 0) (c1 := 2) (c2 := 8) (as := [(4, 0), (0, 1), (0, 0), (0, 2)]) (asC := [(4, 0), (0, 1), (0, 0), (0, 2)]) (LN := [(0, (4, 0)), (1, (0, x1)), (2, (0, 0)), (3, (0, 1))]) (stN := []) (hsC := [jgh]) (v := (9, 0)) (st2 := []) (jA_116_1293 (d := 0)) (by rfl) (by rfl) (by decide +kernel) (by rfl) (by rfl) (by omega) (by omega) (by omega) (by omega) rfl ?_
  refine jT_xaload_n (v := (4, 0)) (pcN := 23) jI_140_22 rfl rfl rfl ?_
  refine jT_xaload_n (v := (4, 0)) (pcN := 24) jI_140_23 rfl rfl rfl ?_
  refine jT_xgetf (a := 0) (t := 1) (ci := 13) (fi := 11) (c := jzA_5) (v := (4, 11)) (pcN := 27) jI_140_24 rfl rfl rfl rfl rfl rfl rfl ?_
  refine jT_xiload_n (v := (0, x1)) (pcN := 28) jI_140_27 rfl rfl rfl ?_
  refine jT_fR [11, 14, 15, 16, 17, 18, 19] 21 (y := 57) (pcN := 31) (dC := 0) (bc1 := 0) (bc2 := 0) (c1 := 2) (c2 := 8) (as := [(4, 11), (0, x1)]) (asC := [(4, 0), (0, x1)]) (LN := [(0, (4, 0)), (1, (0, x1)), (2, (0, 0)), (3, (0, 1))]) (stN := [(4, 0)]) (hsC := jpA_47) (v := (4, 6)) (st2 := [(4, 19), (4, 0)]) (jA_57_108 (d := 0) (by omega)) (by rfl) (by rfl) (by decide +kernel) (by rfl) (by rfl) (by omega) (by omega) (by omega) (by omega) rfl ?_
  refine jT_xiload_n (v := (0, 0)) (pcN := 32) jI_140_31 rfl rfl rfl ?_
  refine jT_xiload_n (v := (0, 1)) (pcN := 33) jI_140_32 rfl rfl rfl ?_
  refine jT_fA [0, 19, 1, 2, 3, 4, 5, 6, 7, 8, 9, 10, 11, 20, 12, 13] 21 (y := 108) (pcN := 36) (dC := 3) (bc1 := 2) (bc2 := 8) (c1 := 0) (c2 := 0) (as := [(4, 0), (4, 19), (0, 0), (0, 1)]) (asC := [(4, 0), (4, 1), (0, 0), (0, 1)]) (LN := [(0, (4, 0)), (1, (0, x1)), (2, (0, 0)), (3, (0, 1))]) (stN := []) (hsC := jpA_4325) (ex := [(101, [], [0, 0, 0, 0, 0, 0]), (4, [(4, 16), (1, 1)], [])]) (v := (1, 0)) (st2 := [(1, 0)]) (hs2 := jpA_4351) (jA_108_1295 (d := 0)) (by rfl) (by rfl) (by decide +kernel) (by rfl) (by rfl) (by omega) (by omega) (by omega) (by omega) rfl (by decide +kernel) ?_
  exact jT_ret rfl (by decide) (by show 21 ≤ 23; decide) (by omega) (by omega) ⟨rfl, rfl, rfl⟩
def jpA_4352 : List JC := [jzA_14, (101, [], [0]), (8, [(4, 13), (4, 14)], []), jgh, jgh, jgh, jgh, jgh, jgh, jgh, jgh, jgh, jzA_659, jgh, jgh, jzA_660, jgh, jgh, jgh, jgh, (4, [(4, 21), (1, 1)], []), (101, [], [0, 0, 0, 0, 0, 0]), (101, [], [0, 0, 0, 0, 0, 0]), (4, [(4, 22), (1, 1)], [])]
theorem jA_347_1297 {xs : List Int} {d : Nat} {x1 : Int} (h_x1 : 0 ≤ x1 ∧ x1 ≤ 7) : jT xs (d + 5) 347 22 0 [(0, (4, 0)), (1, (0, x1)), (2, (0, 0)), (3, (0, 1)), (4, (4, 1))] [] jpA_4038 2 8 (fun k v hsN => k = 0 ∧ v = (0, 0) ∧ hsN = jpA_4038 ++ [(101, [], [0, 0, 0, 0, 0, 0]), (4, [(4, 22), (1, 1)], [])]) := by
  refine jT_xaload (v := (4, 1)) (pcN := 2) jI_347_0 rfl rfl rfl ?_
  refine jT_xiconst (k := 0) (pcN := 3) jI_347_2 rfl ?_
  refine jT_xaload_n (v := (4, 0)) (pcN := 4) jI_347_3 rfl rfl rfl ?_
  refine jT_xiload_n (v := (0, x1)) (pcN := 5) jI_347_4 rfl rfl rfl ?_
  refine jT_xiload_n (v := (0, 0)) (pcN := 6) jI_347_5 rfl rfl rfl ?_
  refine jT_xiload_n (v := (0, 1)) (pcN := 7) jI_347_6 rfl rfl rfl ?_
  refine jT_fA [0, 2, 3, 4, 5, 6, 7, 8, 9, 10, 11, 12, 13, 14, 15, 16, 17, 18, 19, 20, 21] 22 (y := 140) (pcN := 10) (dC := 4) (bc1 := 2) (bc2 := 8) (c1 := 0) (c2 := 0) (as := [(4, 0), (0, x1), (0, 0), (0, 1)]) (asC := [(4, 0), (0, x1), (0, 0), (0, 1)]) (LN := [(0, (4, 0)), (1, (0, x1)), (2, (0, 0)), (3, (0, 1)), (4, (4, 1))]) (stN := [(0, 0), (4, 1)]) (hsC := jpA_3958) (ex := [(101, [], [0, 0, 0, 0, 0, 0]), (4, [(4, 21), (1, 1)], [])]) (v := (1, 0)) (st2 := [(1, 0), (0, 0), (4, 1)]) (hs2 := jpA_4352) (jA_140_1296 (d := 0) (by omega)) (by rfl) (by rfl) (by decide +kernel) (by rfl) (by rfl) (by omega) (by omega) (by omega) (by omega) rfl (by decide +kernel) ?_
  refine jT_adv 1 (pcN := 11) (LN := [(0, (4, 0)), (1, (0, x1)), (2, (0, 0)), (3, (0, 1)), (4, (4, 1))]) (stN := []) (hsN := jpA_4352) (c1 := 0) (s1 := 0) (c2 := 0) (s2 := 0) (by exact rfl) ?_ (by omega) (by omega)
  refine jT_xgoto (pcN := 22) jI_347_11 rfl ?_
  refine jT_xiconst (k := 0) (pcN := 23) jI_347_22 rfl ?_
  exact jT_ret rfl (by decide) (by show 22 ≤ 24; decide) (by omega) (by omega) ⟨rfl, rfl, rfl⟩
theorem jA_189_1298 {xs : List Int} {d : Nat} : jT xs d 189 0 0 [(0, (1, 1)), (2, (1, 0)), (4, (1, 2))] [] [] 0 0 (fun k v hsN => k = 0 ∧ v = (0, 1) ∧ hsN = [] ++ []) := by
  refine jT_advK 10 (pcN := 18) (LN := [(0, (1, 1)), (2, (1, 0)), (4, (1, 2))]) (stN := [(0, 1)]) (hsN := []) (c1 := 0) (s1 := 0) (c2 := 0) (s2 := 0) (by decide +kernel) ?_ (by omega) (by omega)
  exact jT_ret rfl (by decide) (by show 0 ≤ 0; decide) (by omega) (by omega) ⟨rfl, rfl, rfl⟩
def jpA_4353 : List JC := [jzA_21, jgh, jgh, jgh, jgh, jgh, (130, [], [16, 17, 18, 19, 20, 21]), (101, [], [0, 0, 0, 0, 0, 0]), jgh, jgh, jgh, jgh, jgh, jgh, jgh, jgh, (100, [], (jenc (jlg 0))), jgh, jgh, jgh, jgh, jgh, (101, [], [0, 0, 0, 0, 0, 0]), (101, [], [0, 0, 0, 0, 0, 0]), (101, [], [(-1), 0, 0, 0, 0, 0]), (100, [], (jenc 0)), (100, [], (jenc (-1))), (100, [], (jenc ((-1) * (jlg 0)))), (101, [], [0, 0, 0, 0, 0, 0])]
def jpA_4354 : List JC := [(101, [], [0, 0, 0, 0, 0, 0]), (101, [], [0, 0, 0, 0, 0, 0]), (101, [], [(-1), 0, 0, 0, 0, 0]), (100, [], (jenc 0)), (100, [], (jenc (-1))), (100, [], (jenc ((-1) * (jlg 0)))), (101, [], [0, 0, 0, 0, 0, 0])]
theorem jA_265_1299 {xs : List Int} {d : Nat} : jT xs (d + 6) 265 22 0 [(0, (4, 0)), (1, (1, 1)), (3, (0, 1))] [] jpA_684 7 192 (fun k v hsN => k = 0 ∧ v = (1, 0) ∧ hsN = jpA_684 ++ jpA_4354) := by
  refine jT_advK 4 (pcN := 6) (LN := [(0, (4, 0)), (1, (1, 1)), (3, (0, 1))]) (stN := [(1, 1200), (4, 0)]) (hsN := jpA_684) (c1 := 0) (s1 := 0) (c2 := 7) (s2 := 192) (by decide +kernel) ?_ (by omega) (by omega)
  refine jT_fA [0, 1, 2, 3, 4, 5, 6, 7, 8, 9, 10, 11, 12, 13, 14, 15] 22 (y := 218) (pcN := 9) (dC := 0) (bc1 := 1) (bc2 := 6) (c1 := 6) (c2 := 186) (as := [(4, 0), (1, 1200)]) (asC := [(4, 0), (1, 1200)]) (LN := [(0, (4, 0)), (1, (1, 1)), (3, (0, 1))]) (stN := []) (hsC := jpA_147) (ex := [(101, [], [0, 0, 0, 0, 0, 0])]) (v := (4, 16)) (st2 := [(4, 22)]) (hs2 := jpA_3652) (jA_218_968 (d := 0)) (by rfl) (by rfl) (by decide +kernel) (by rfl) (by rfl) (by omega) (by omega) (by omega) (by omega) rfl (by decide +kernel) ?_
  refine jT_advK 8 (pcN := 34) (LN := [(4, (4, 22)), (0, (4, 0)), (1, (1, 1)), (3, (0, 1))]) (stN := [(1, 1), (4, 22), (4, 0)]) (hsN := jpA_3652) (c1 := 0) (s1 := 0) (c2 := 6) (s2 := 186) (by decide +kernel) ?_ (by omega) (by omega)
  refine jT_fA [0, 22, 1, 2, 3, 4, 5, 6, 7, 8, 9, 10, 11, 12, 13, 14, 15, 16, 17, 18, 19, 20, 21] 23 (y := 210) (pcN := 37) (dC := 5) (bc1 := 5) (bc2 := 180) (c1 := 1) (c2 := 6) (as := [(4, 0), (4, 22), (1, 1)]) (asC := [(4, 0), (4, 1), (1, 1)]) (LN := [(4, (4, 22)), (0, (4, 0)), (1, (1, 1)), (3, (0, 1))]) (stN := []) (hsC := jpA_987) (ex := jpA_683) (v := (1, 0)) (st2 := [(1, 0)]) (hs2 := jpA_4340) (jA_210_1290 (d := 0)) (by rfl) (by rfl) (by decide +kernel) (by rfl) (by rfl) (by omega) (by omega) (by omega) (by omega) rfl (by decide +kernel) ?_
  refine jT_advK 9 (pcN := 53) (LN := [(5, (1, 0)), (4, (4, 22)), (0, (4, 0)), (1, (1, 1)), (3, (0, 1))]) (stN := [(1, 0), (4, 22), (4, 0)]) (hsN := jpA_4340) (c1 := 0) (s1 := 0) (c2 := 1) (s2 := 6) (by decide +kernel) ?_ (by omega) (by omega)
  refine jT_fA [0, 22, 1, 2, 3, 4, 5, 6, 7, 8, 9, 10, 11, 12, 13, 14, 15] 28 (y := 212) (pcN := 56) (dC := 2) (bc1 := 1) (bc2 := 6) (c1 := 0) (c2 := 0) (as := [(4, 0), (4, 22), (1, 0)]) (asC := [(4, 0), (4, 1), (1, 0)]) (LN := [(5, (1, 0)), (4, (4, 22)), (0, (4, 0)), (1, (1, 1)), (3, (0, 1))]) (stN := []) (hsC := jpA_4335) (ex := [(101, [], [0, 0, 0, 0, 0, 0])]) (v := (0, 0)) (st2 := [(0, 0)]) (hs2 := jpA_4353) (jA_212_1288 (d := 0)) (by rfl) (by rfl) (by decide +kernel) (by rfl) (by rfl) (by omega) (by omega) (by omega) (by omega) rfl (by decide +kernel) ?_
  refine jT_advK 3 (pcN := 68) (LN := [(5, (1, 0)), (4, (4, 22)), (0, (4, 0)), (1, (1, 1)), (3, (0, 1))]) (stN := [(1, 0)]) (hsN := jpA_4353) (c1 := 0) (s1 := 0) (c2 := 0) (s2 := 0) (by decide +kernel) ?_ (by omega) (by omega)
  exact jT_ret rfl (by decide) (by show 22 ≤ 29; decide) (by omega) (by omega) ⟨rfl, rfl, rfl⟩
def jpA_4355 : List JC := [jzA_21, (100, [], jS0), jgh, jgh, jgh, jgh, (130, [], [16, 17, 18, 19, 20, 21]), (101, [], [0, 0, 0, 0, 0, 0]), jgh, jgh, jgh, jgh, jgh, jgh, jgh, jgh, (100, [], (jenc (jlg 0))), jgh, jgh, jgh, jgh, jgh, (101, [], [0, 0, 0, 0, 0, 0]), (101, [], [0, 0, 0, 0, 0, 0]), (101, [], [(-1), 0, 0, 0, 0, 0]), (100, [], (jenc 0)), (100, [], (jenc (-1))), (100, [], (jenc ((-1) * (jlg 0)))), (101, [], [0, 0, 0, 0, 0, 0])]
theorem jA_263_1300 {xs : List Int} {d : Nat} {x1 : Int} (h_x1 : 0 ≤ x1 ∧ x1 ≤ 7) : jT xs (d + 7) 263 22 0 [(0, (4, 0)), (1, (0, x1)), (2, (0, 0)), (3, (0, 1))] [] jpA_1695 7 192 (fun k v hsN => k = 0 ∧ v = (1, 0) ∧ hsN = jpA_1695 ++ jpA_4354) := by
  refine jT_xaload_n (v := (4, 0)) (pcN := 1) jI_263_0 rfl rfl rfl ?_
  refine jT_xiload_n (v := (0, x1)) (pcN := 2) jI_263_1 rfl rfl rfl ?_
  refine jT_fR [] 22 (y := 188) (pcN := 5) (dC := 1) (bc1 := 0) (bc2 := 0) (c1 := 7) (c2 := 192) (as := [(0, x1)]) (asC := [(0, x1)]) (LN := [(0, (4, 0)), (1, (0, x1)), (2, (0, 0)), (3, (0, 1))]) (stN := [(4, 0)]) (hsC := []) (v := (0, 1)) (st2 := [(0, 1), (4, 0)]) (jA_188_13 (d := 0) (by omega)) (by rfl) (by rfl) (by decide +kernel) (by rfl) (by rfl) (by omega) (by omega) (by omega) (by omega) rfl ?_
  refine jT_fR [0, 1, 2, 3, 4, 5, 6, 7, 8, 9, 10, 11, 12, 13, 14, 15] 22 (y := 190) (pcN := 8) (dC := 1) (bc1 := 0) (bc2 := 0) (c1 := 7) (c2 := 192) (as := [(4, 0), (0, 1)]) (asC := [(4, 0), (0, 1)]) (LN := [(0, (4, 0)), (1, (0, x1)), (2, (0, 0)), (3, (0, 1))]) (stN := []) (hsC := jpA_22) (v := (0, 0)) (st2 := [(0, 0)]) (jA_190_39 (d := 0)) (by rfl) (by rfl) (by decide +kernel) (by rfl) (by rfl) (by omega) (by omega) (by omega) (by omega) rfl ?_
  refine jT_xifF (t := 48) (pcN := 11) jI_263_8 rfl (by decide +kernel) rfl rfl ?_
  refine jT_xaload_n (v := (4, 0)) (pcN := 12) jI_263_11 rfl rfl rfl ?_
  refine jT_xiload_n (v := (0, 0)) (pcN := 13) jI_263_12 rfl rfl rfl ?_
  refine jT_xi2l (x := 0) (z := 0) (pcN := 14) jI_263_13 rfl (by decide +kernel) rfl ?_
  refine jT_xlconst (z := 0) (pcN := 15) jI_263_14 rfl rfl ?_
  refine jT_adv 1 (pcN := 18) (LN := [(0, (4, 0)), (1, (0, x1)), (2, (0, 0)), (3, (0, 1))]) (stN := [(1, 9), (1, 0), (1, 0), (4, 0)]) (hsN := jpA_1695) (c1 := 0) (s1 := 0) (c2 := 7) (s2 := 192) (by exact rfl) ?_ (by omega) (by omega)
  refine jT_fR [] 22 (y := 189) (pcN := 21) (dC := 0) (bc1 := 0) (bc2 := 0) (c1 := 7) (c2 := 192) (as := [(1, 0), (1, 0), (1, 9)]) (asC := [(1, 0), (1, 0), (1, 9)]) (LN := [(0, (4, 0)), (1, (0, x1)), (2, (0, 0)), (3, (0, 1))]) (stN := [(4, 0)]) (hsC := []) (v := (0, 1)) (st2 := [(0, 1), (4, 0)]) (jA_189_1285 (d := 0)) (by rfl) (by rfl) (by decide +kernel) (by rfl) (by rfl) (by omega) (by omega) (by omega) (by omega) rfl ?_
  refine jT_xifF (t := 40) (pcN := 24) jI_263_21 rfl (by decide +kernel) rfl rfl ?_
  refine jT_xiload_n (v := (0, 1)) (pcN := 25) jI_263_24 rfl rfl rfl ?_
  refine jT_xi2l (x := 1) (z := 1) (pcN := 26) jI_263_25 rfl (by decide +kernel) rfl ?_
  refine jT_xlconst (z := 0) (pcN := 27) jI_263_26 rfl rfl ?_
  refine jT_adv 1 (pcN := 30) (LN := [(0, (4, 0)), (1, (0, x1)), (2, (0, 0)), (3, (0, 1))]) (stN := [(1, 2), (1, 0), (1, 1), (4, 0)]) (hsN := jpA_1695) (c1 := 0) (s1 := 0) (c2 := 7) (s2 := 192) (by exact rfl) ?_ (by omega) (by omega)
  refine jT_fR [] 22 (y := 189) (pcN := 33) (dC := 0) (bc1 := 0) (bc2 := 0) (c1 := 7) (c2 := 192) (as := [(1, 1), (1, 0), (1, 2)]) (asC := [(1, 1), (1, 0), (1, 2)]) (LN := [(0, (4, 0)), (1, (0, x1)), (2, (0, 0)), (3, (0, 1))]) (stN := [(4, 0)]) (hsC := []) (v := (0, 1)) (st2 := [(0, 1), (4, 0)]) (jA_189_1298 (d := 0)) (by rfl) (by rfl) (by decide +kernel) (by rfl) (by rfl) (by omega) (by omega) (by omega) (by omega) rfl ?_
  refine jT_xifF (t := 40) (pcN := 36) jI_263_33 rfl (by decide +kernel) rfl rfl ?_
  refine jT_xiconst (k := 1) (pcN := 37) jI_263_36 rfl ?_
  refine jT_xgoto (pcN := 41) jI_263_37 rfl ?_
  refine jT_xiconst (k := 2) (pcN := 42) jI_263_41 rfl ?_
  refine jT_fR [0] 22 (y := 191) (pcN := 45) (dC := 0) (bc1 := 0) (bc2 := 0) (c1 := 7) (c2 := 192) (as := [(4, 0), (0, 1), (0, 2)]) (asC := [(4, 0), (0, 1), (0, 2)]) (LN := [(0, (4, 0)), (1, (0, x1)), (2, (0, 0)), (3, (0, 1))]) (stN := []) (hsC := [jgh]) (v := (0, 0)) (st2 := [(0, 0)]) (jA_191_49 (d := 0)) (by rfl) (by rfl) (by decide +kernel) (by rfl) (by rfl) (by omega) (by omega) (by omega) (by omega) rfl ?_
  refine jT_xifT (pcN := 50) jI_263_45 rfl (by decide +kernel) rfl ?_
  refine jT_xaload_n (v := (4, 0)) (pcN := 51) jI_263_50 rfl rfl rfl ?_
  refine jT_xiload_n (v := (0, x1)) (pcN := 52) jI_263_51 rfl rfl rfl ?_
  refine jT_fR [0, 1, 2, 3, 4, 5, 6, 7, 8, 9, 10, 11, 12, 13, 14, 15] 22 (y := 202) (pcN := 55) (dC := 1) (bc1 := 0) (bc2 := 0) (c1 := 7) (c2 := 192) (as := [(4, 0), (0, x1)]) (asC := [(4, 0), (0, x1)]) (LN := [(0, (4, 0)), (1, (0, x1)), (2, (0, 0)), (3, (0, 1))]) (stN := []) (hsC := jpA_130) (v := (9, 0)) (st2 := []) (jA_202_115 (d := 0) (by omega)) (by rfl) (by rfl) (by decide +kernel) (by rfl) (by rfl) (by omega) (by omega) (by omega) (by omega) rfl ?_
  refine jT_xaload_n (v := (4, 0)) (pcN := 56) jI_263_55 rfl rfl rfl ?_
  refine jT_xiload_n (v := (0, 0)) (pcN := 57) jI_263_56 rfl rfl rfl ?_
  refine jT_fR [] 22 (y := 264) (pcN := 60) (dC := 0) (bc1 := 0) (bc2 := 0) (c1 := 7) (c2 := 192) (as := [(0, 0)]) (asC := [(0, 0)]) (LN := [(0, (4, 0)), (1, (0, x1)), (2, (0, 0)), (3, (0, 1))]) (stN := [(4, 0)]) (hsC := []) (v := (1, 1)) (st2 := [(1, 1), (4, 0)]) (jA_264_1287 (d := 0)) (by rfl) (by rfl) (by decide +kernel) (by rfl) (by rfl) (by omega) (by omega) (by omega) (by omega) rfl ?_
  refine jT_xiload_n (v := (0, 1)) (pcN := 61) jI_263_60 rfl rfl rfl ?_
  refine jT_fA [0, 1, 2, 3, 4, 5, 6, 7, 8, 9, 10, 11, 12, 13, 14, 15, 16, 17, 18, 19, 20, 21] 22 (y := 265) (pcN := 64) (dC := 6) (bc1 := 7) (bc2 := 192) (c1 := 0) (c2 := 0) (as := [(4, 0), (1, 1), (0, 1)]) (asC := [(4, 0), (1, 1), (0, 1)]) (LN := [(0, (4, 0)), (1, (0, x1)), (2, (0, 0)), (3, (0, 1))]) (stN := []) (hsC := jpA_684) (ex := jpA_4354) (v := (1, 0)) (st2 := [(1, 0)]) (hs2 := jpA_4355) (jA_265_1299 (d := 0)) (by rfl) (by rfl) (by decide +kernel) (by rfl) (by rfl) (by omega) (by omega) (by omega) (by omega) rfl (by decide +kernel) ?_
  exact jT_ret rfl (by decide) (by show 22 ≤ 29; decide) (by omega) (by omega) ⟨rfl, rfl, rfl⟩
theorem jA_116_1301 {xs : List Int} {d : Nat} : jT xs d 116 1 0 [(0, (4, 0)), (1, (0, 2)), (2, (0, 0)), (3, (0, 2))] [] [jgh] 0 0 (fun k v hsN => k = 0 ∧ v = (9, 0) ∧ hsN = [jgh] ++ []) := by
  refine jT_advK 6 (pcN := 21) (LN := [(0, (4, 0)), (1, (0, 2)), (2, (0, 0)), (3, (0, 2))]) (stN := []) (hsN := [jgh]) (c1 := 0) (s1 := 0) (c2 := 0) (s2 := 0) (by decide +kernel) ?_ (by omega) (by omega)
  exact jT_ret rfl (by decide) (by show 1 ≤ 1; decide) (by omega) (by omega) ⟨rfl, rfl, rfl⟩
theorem jA_108_1302 {xs : List Int} {d : Nat} : jT xs (d + 4) 108 16 0 [(0, (4, 0)), (1, (4, 1)), (2, (0, 0)), (3, (0, 2))] [] jpA_4325 0 0 (fun k v hsN => k = 0 ∧ v = (1, 0) ∧ hsN = jpA_4325 ++ []) := by
  refine jT_advK 14 (pcN := 40) (LN := [(6, (0, 0)), (4, (1, 1200)), (0, (4, 0)), (1, (4, 1)), (2, (0, 0)), (3, (0, 2))]) (stN := [(1, 1200), (4, 1), (4, 2)]) (hsN := jpA_4325) (c1 := 0) (s1 := 0) (c2 := 0) (s2 := 0) (by decide +kernel) ?_ (by omega) (by omega)
  refine jT_fR [2, 1, 14, 15, 13] 16 (y := 43) (pcN := 43) (dC := 3) (bc1 := 0) (bc2 := 0) (c1 := 0) (c2 := 0) (as := [(4, 2), (4, 1), (1, 1200)]) (asC := [(4, 0), (4, 1), (1, 1200)]) (LN := [(6, (0, 0)), (4, (1, 1200)), (0, (4, 0)), (1, (4, 1)), (2, (0, 0)), (3, (0, 2))]) (stN := []) (hsC := jpA_626) (v := (1, 0)) (st2 := [(1, 0)]) (jA_43_965 (d := 0)) (by rfl) (by rfl) (by decide +kernel) (by rfl) (by rfl) (by omega) (by omega) (by omega) (by omega) rfl ?_
  exact jT_ret rfl (by decide) (by show 16 ≤ 16; decide) (by omega) (by omega) ⟨rfl, rfl, rfl⟩
theorem jA_140_1303 {xs : List Int} {d : Nat} {x1 : Int} (h_x1 : 0 ≤ x1 ∧ x1 ≤ 7) : jT xs (d + 5) 140 21 0 [(0, (4, 0)), (1, (0, x1)), (2, (0, 0)), (3, (0, 2))] [] jpA_3958 0 0 (fun k v hsN => k = 0 ∧ v = (1, 0) ∧ hsN = jpA_3958 ++ []) := by
  refine jT_xaload_n (v := (4, 0)) (pcN := 1) jI_140_0 rfl rfl rfl ?_
  refine jT_xiload_n (v := (0, x1)) (pcN := 2) jI_140_1 rfl rfl rfl ?_
  refine jT_xbipush (k := 8) (pcN := 4) jI_140_2 (by decide) rfl ?_
  refine jT_fR [0] 21 (y := 115) (pcN := 7) (dC := 0) (bc1 := 0) (bc2 := 0) (c1 := 0) (c2 := 0) (as := [(4, 0), (0, x1), (0, 8)]) (asC := [(4, 0), (0, x1), (0, 8)]) (LN := [(0, (4, 0)), (1, (0, x1)), (2, (0, 0)), (3, (0, 2))]) (stN := []) (hsC := [jgh]) (v := (9, 0)) (st2 := []) (jA_115_9 (d := 0) (by omega)) (by rfl) (by rfl) (by decide +kernel) (by rfl) (by rfl) (by omega) (by omega) (by omega) (by omega) rfl ?_
  refine jT_xaload_n (v := (4, 0)) (pcN := 8) jI_140_7 rfl rfl rfl ?_
  refine jT_xiload_n (v := (0, 0)) (pcN := 9) jI_140_8 rfl rfl rfl ?_
  refine jT_xiconst (k := 0) (pcN := 10) jI_140_9 rfl ?_
  refine jT_xbipush (k := 9) (pcN := 12) jI_140_10 (by decide) rfl ?_
  refine jT_fR [0] 21 (y := 116) (pcN := 15) (dC := 0) (bc1 := 0) (bc2 := 0) (c1 := 0) (c2 := 0) (as := [(4, 0), (0, 0), (0, 0), (0, 9)]) (asC := [(4, 0), (0, 0), (0, 0), (0, 9)]) (LN := [(0, (4, 0)), (1, (0, x1)), (2, (0, 0)), (3, (0, 2))]) (stN := []) (hsC := [jgh]) (v := (9, 0)) (st2 := []) (jA_116_1277 (d := 0)) (by rfl) (by rfl) (by decide +kernel) (by rfl) (by rfl) (by omega) (by omega) (by omega) (by omega) rfl ?_
  refine jT_xaload_n (v := (4, 0)) (pcN := 16) jI_140_15 rfl rfl rfl ?_
  refine jT_xiload_n (v := (0, 2)) (pcN := 17) jI_140_16 rfl rfl rfl ?_
  refine jT_xiconst (k := 0) (pcN := 18) jI_140_17 rfl ?_
  refine jT_xiconst (k := 2) (pcN := 19) jI_140_18 rfl ?_
  refine jT_fR [0] 21 (y := 116) (pcN := 22) (dC := 0) (bc1 := 0) (bc2 := 0) (c1 := 0) (c2 := 0) (as := [(4, 0), (0, 2), (0, 0), (0, 2)]) (asC := [(4, 0), (0, 2), (0, 0), (0, 2)]) (LN := [(0, (4, 0)), (1, (0, x1)), (2, (0, 0)), (3, (0, 2))]) (stN := []) (hsC := [jgh]) (v := (9, 0)) (st2 := []) (jA_116_1301 (d := 0)) (by rfl) (by rfl) (by decide +kernel) (by rfl) (by rfl) (by omega) (by omega) (by omega) (by omega) rfl ?_
  refine jT_xaload_n (v := (4, 0)) (pcN := 23) jI_140_22 rfl rfl rfl ?_
  refine jT_xaload_n (v := (4, 0)) (pcN := 24) jI_140_23 rfl rfl rfl ?_
  refine jT_xgetf (a := 0) (t := 1) (ci := 13) (fi := 11) (c := jzA_5) (v := (4, 11)) (pcN := 27) jI_140_24 rfl rfl rfl rfl rfl rfl rfl ?_
  refine jT_xiload_n (v := (0, x1)) (pcN := 28) jI_140_27 rfl rfl rfl ?_
  refine jT_fR [11, 14, 15, 16, 17, 18, 19] 21 (y := 57) (pcN := 31) (dC := 0) (bc1 := 0) (bc2 := 0) (c1 := 0) (c2 := 0) (as := [(4, 11), (0, x1)]) (asC := [(4, 0), (0, x1)]) (LN := [(0, (4, 0)), (1, (0, x1)), (2, (0, 0)), (3, (0, 2))]) (stN := [(4, 0)]) (hsC := jpA_47) (v := (4, 6)) (st2 := [(4, 19), (4, 0)]) (jA_57_108 (d := 0) (by omega)) (by rfl) (by rfl) (by decide +kernel) (by rfl) (by rfl) (by omega) (by omega) (by omega) (by omega) rfl ?_
  refine jT_xiload_n (v := (0, 0)) (pcN := 32) jI_140_31 rfl rfl rfl ?_
  refine jT_xiload_n (v := (0, 2)) (pcN := 33) jI_140_32 rfl rfl rfl ?_
  refine jT_fR [0, 19, 1, 2, 3, 4, 5, 6, 7, 8, 9, 10, 11, 20, 12, 13] 21 (y := 108) (pcN := 36) (dC := 4) (bc1 := 0) (bc2 := 0) (c1 := 0) (c2 := 0) (as := [(4, 0), (4, 19), (0, 0), (0, 2)]) (asC := [(4, 0), (4, 1), (0, 0), (0, 2)]) (LN := [(0, (4, 0)), (1, (0, x1)), (2, (0, 0)), (3, (0, 2))]) (stN := []) (hsC := jpA_4325) (v := (1, 0)) (st2 := [(1, 0)]) (jA_108_1302 (d := 0)) (by rfl) (by rfl) (by decide +kernel) (by rfl) (by rfl) (by omega) (by omega) (by omega) (by omega) rfl ?_
  exact jT_ret rfl (by decide) (by show 21 ≤ 21; decide) (by omega) (by omega) ⟨rfl, rfl, rfl⟩
theorem jA_347_1304 {xs : List Int} {d : Nat} {x1 : Int} (h_x1 : 0 ≤ x1 ∧ x1 ≤ 7) : jT xs (d + 6) 347 22 0 [(0, (4, 0)), (1, (0, x1)), (2, (0, 0)), (3, (0, 2)), (4, (4, 1))] [] jpA_4038 0 0 (fun k v hsN => k = 0 ∧ v = (0, 0) ∧ hsN = jpA_4038 ++ []) := by
  refine jT_xaload (v := (4, 1)) (pcN := 2) jI_347_0 rfl rfl rfl ?_
  refine jT_xiconst (k := 0) (pcN := 3) jI_347_2 rfl ?_
  refine jT_xaload_n (v := (4, 0)) (pcN := 4) jI_347_3 rfl rfl rfl ?_
  refine jT_xiload_n (v := (0, x1)) (pcN := 5) jI_347_4 rfl rfl rfl ?_
  refine jT_xiload_n (v := (0, 0)) (pcN := 6) jI_347_5 rfl rfl rfl ?_
  refine jT_xiload_n (v := (0, 2)) (pcN := 7) jI_347_6 rfl rfl rfl ?_
  refine jT_fR [0, 2, 3, 4, 5, 6, 7, 8, 9, 10, 11, 12, 13, 14, 15, 16, 17, 18, 19, 20, 21] 22 (y := 140) (pcN := 10) (dC := 5) (bc1 := 0) (bc2 := 0) (c1 := 0) (c2 := 0) (as := [(4, 0), (0, x1), (0, 0), (0, 2)]) (asC := [(4, 0), (0, x1), (0, 0), (0, 2)]) (LN := [(0, (4, 0)), (1, (0, x1)), (2, (0, 0)), (3, (0, 2)), (4, (4, 1))]) (stN := [(0, 0), (4, 1)]) (hsC := jpA_3958) (v := (1, 0)) (st2 := [(1, 0), (0, 0), (4, 1)]) (jA_140_1303 (d := 0) (by omega)) (by rfl) (by rfl) (by decide +kernel) (by rfl) (by rfl) (by omega) (by omega) (by omega) (by omega) rfl ?_
  refine jT_adv 1 (pcN := 11) (LN := [(0, (4, 0)), (1, (0, x1)), (2, (0, 0)), (3, (0, 2)), (4, (4, 1))]) (stN := []) (hsN := jpA_4038) (c1 := 0) (s1 := 0) (c2 := 0) (s2 := 0) (by exact rfl) ?_ (by omega) (by omega)
  refine jT_xgoto (pcN := 22) jI_347_11 rfl ?_
  refine jT_xiconst (k := 0) (pcN := 23) jI_347_22 rfl ?_
  exact jT_ret rfl (by decide) (by show 22 ≤ 22; decide) (by omega) (by omega) ⟨rfl, rfl, rfl⟩
theorem jA_189_1305 {xs : List Int} {d : Nat} : jT xs d 189 0 0 [(0, (1, 2)), (2, (1, 0)), (4, (1, 2))] [] [] 0 0 (fun k v hsN => k = 0 ∧ v = (0, 1) ∧ hsN = [] ++ []) := by
  refine jT_advK 10 (pcN := 18) (LN := [(0, (1, 2)), (2, (1, 0)), (4, (1, 2))]) (stN := [(0, 1)]) (hsN := []) (c1 := 0) (s1 := 0) (c2 := 0) (s2 := 0) (by decide +kernel) ?_ (by omega) (by omega)
  exact jT_ret rfl (by decide) (by show 0 ≤ 0; decide) (by omega) (by omega) ⟨rfl, rfl, rfl⟩
theorem jA_263_1306 {xs : List Int} {d : Nat} {x1 : Int} (h_x1 : 0 ≤ x1 ∧ x1 ≤ 7) : jT xs (d + 8) 263 22 0 [(0, (4, 0)), (1, (0, x1)), (2, (0, 0)), (3, (0, 2))] [] jpA_1695 10 360 (fun k v hsN => k = 0 ∧ v = (1, 0) ∧ hsN = jpA_1695 ++ jpA_3654) := by
  refine jT_xaload_n (v := (4, 0)) (pcN := 1) jI_263_0 rfl rfl rfl ?_
  refine jT_xiload_n (v := (0, x1)) (pcN := 2) jI_263_1 rfl rfl rfl ?_
  refine jT_fR [] 22 (y := 188) (pcN := 5) (dC := 1) (bc1 := 0) (bc2 := 0) (c1 := 10) (c2 := 360) (as := [(0, x1)]) (asC := [(0, x1)]) (LN := [(0, (4, 0)), (1, (0, x1)), (2, (0, 0)), (3, (0, 2))]) (stN := [(4, 0)]) (hsC := []) (v := (0, 1)) (st2 := [(0, 1), (4, 0)]) (jA_188_13 (d := 0) (by omega)) (by rfl) (by rfl) (by decide +kernel) (by rfl) (by rfl) (by omega) (by omega) (by omega) (by omega) rfl ?_
  refine jT_fR [0, 1, 2, 3, 4, 5, 6, 7, 8, 9, 10, 11, 12, 13, 14, 15] 22 (y := 190) (pcN := 8) (dC := 1) (bc1 := 0) (bc2 := 0) (c1 := 10) (c2 := 360) (as := [(4, 0), (0, 1)]) (asC := [(4, 0), (0, 1)]) (LN := [(0, (4, 0)), (1, (0, x1)), (2, (0, 0)), (3, (0, 2))]) (stN := []) (hsC := jpA_22) (v := (0, 0)) (st2 := [(0, 0)]) (jA_190_39 (d := 0)) (by rfl) (by rfl) (by decide +kernel) (by rfl) (by rfl) (by omega) (by omega) (by omega) (by omega) rfl ?_
  refine jT_xifF (t := 48) (pcN := 11) jI_263_8 rfl (by decide +kernel) rfl rfl ?_
  refine jT_xaload_n (v := (4, 0)) (pcN := 12) jI_263_11 rfl rfl rfl ?_
  refine jT_xiload_n (v := (0, 0)) (pcN := 13) jI_263_12 rfl rfl rfl ?_
  refine jT_xi2l (x := 0) (z := 0) (pcN := 14) jI_263_13 rfl (by decide +kernel) rfl ?_
  refine jT_xlconst (z := 0) (pcN := 15) jI_263_14 rfl rfl ?_
  refine jT_adv 1 (pcN := 18) (LN := [(0, (4, 0)), (1, (0, x1)), (2, (0, 0)), (3, (0, 2))]) (stN := [(1, 9), (1, 0), (1, 0), (4, 0)]) (hsN := jpA_1695) (c1 := 0) (s1 := 0) (c2 := 10) (s2 := 360) (by exact rfl) ?_ (by omega) (by omega)
  refine jT_fR [] 22 (y := 189) (pcN := 21) (dC := 0) (bc1 := 0) (bc2 := 0) (c1 := 10) (c2 := 360) (as := [(1, 0), (1, 0), (1, 9)]) (asC := [(1, 0), (1, 0), (1, 9)]) (LN := [(0, (4, 0)), (1, (0, x1)), (2, (0, 0)), (3, (0, 2))]) (stN := [(4, 0)]) (hsC := []) (v := (0, 1)) (st2 := [(0, 1), (4, 0)]) (jA_189_1285 (d := 0)) (by rfl) (by rfl) (by decide +kernel) (by rfl) (by rfl) (by omega) (by omega) (by omega) (by omega) rfl ?_
  refine jT_xifF (t := 40) (pcN := 24) jI_263_21 rfl (by decide +kernel) rfl rfl ?_
  refine jT_xiload_n (v := (0, 2)) (pcN := 25) jI_263_24 rfl rfl rfl ?_
  refine jT_xi2l (x := 2) (z := 2) (pcN := 26) jI_263_25 rfl (by decide +kernel) rfl ?_
  refine jT_xlconst (z := 0) (pcN := 27) jI_263_26 rfl rfl ?_
  refine jT_adv 1 (pcN := 30) (LN := [(0, (4, 0)), (1, (0, x1)), (2, (0, 0)), (3, (0, 2))]) (stN := [(1, 2), (1, 0), (1, 2), (4, 0)]) (hsN := jpA_1695) (c1 := 0) (s1 := 0) (c2 := 10) (s2 := 360) (by exact rfl) ?_ (by omega) (by omega)
  refine jT_fR [] 22 (y := 189) (pcN := 33) (dC := 0) (bc1 := 0) (bc2 := 0) (c1 := 10) (c2 := 360) (as := [(1, 2), (1, 0), (1, 2)]) (asC := [(1, 2), (1, 0), (1, 2)]) (LN := [(0, (4, 0)), (1, (0, x1)), (2, (0, 0)), (3, (0, 2))]) (stN := [(4, 0)]) (hsC := []) (v := (0, 1)) (st2 := [(0, 1), (4, 0)]) (jA_189_1305 (d := 0)) (by rfl) (by rfl) (by decide +kernel) (by rfl) (by rfl) (by omega) (by omega) (by omega) (by omega) rfl ?_
  refine jT_xifF (t := 40) (pcN := 36) jI_263_33 rfl (by decide +kernel) rfl rfl ?_
  refine jT_xiconst (k := 1) (pcN := 37) jI_263_36 rfl ?_
  refine jT_xgoto (pcN := 41) jI_263_37 rfl ?_
  refine jT_xiconst (k := 2) (pcN := 42) jI_263_41 rfl ?_
  refine jT_fR [0] 22 (y := 191) (pcN := 45) (dC := 0) (bc1 := 0) (bc2 := 0) (c1 := 10) (c2 := 360) (as := [(4, 0), (0, 1), (0, 2)]) (asC := [(4, 0), (0, 1), (0, 2)]) (LN := [(0, (4, 0)), (1, (0, x1)), (2, (0, 0)), (3, (0, 2))]) (stN := []) (hsC := [jgh]) (v := (0, 0)) (st2 := [(0, 0)]) (jA_191_49 (d := 0)) (by rfl) (by rfl) (by decide +kernel) (by rfl) (by rfl) (by omega) (by omega) (by omega) (by omega) rfl ?_
  refine jT_xifT (pcN := 50) jI_263_45 rfl (by decide +kernel) rfl ?_
  refine jT_xaload_n (v := (4, 0)) (pcN := 51) jI_263_50 rfl rfl rfl ?_
  refine jT_xiload_n (v := (0, x1)) (pcN := 52) jI_263_51 rfl rfl rfl ?_
  refine jT_fR [0, 1, 2, 3, 4, 5, 6, 7, 8, 9, 10, 11, 12, 13, 14, 15] 22 (y := 202) (pcN := 55) (dC := 1) (bc1 := 0) (bc2 := 0) (c1 := 10) (c2 := 360) (as := [(4, 0), (0, x1)]) (asC := [(4, 0), (0, x1)]) (LN := [(0, (4, 0)), (1, (0, x1)), (2, (0, 0)), (3, (0, 2))]) (stN := []) (hsC := jpA_130) (v := (9, 0)) (st2 := []) (jA_202_115 (d := 0) (by omega)) (by rfl) (by rfl) (by decide +kernel) (by rfl) (by rfl) (by omega) (by omega) (by omega) (by omega) rfl ?_
  refine jT_xaload_n (v := (4, 0)) (pcN := 56) jI_263_55 rfl rfl rfl ?_
  refine jT_xiload_n (v := (0, 0)) (pcN := 57) jI_263_56 rfl rfl rfl ?_
  refine jT_fR [] 22 (y := 264) (pcN := 60) (dC := 0) (bc1 := 0) (bc2 := 0) (c1 := 10) (c2 := 360) (as := [(0, 0)]) (asC := [(0, 0)]) (LN := [(0, (4, 0)), (1, (0, x1)), (2, (0, 0)), (3, (0, 2))]) (stN := [(4, 0)]) (hsC := []) (v := (1, 1)) (st2 := [(1, 1), (4, 0)]) (jA_264_1287 (d := 0)) (by rfl) (by rfl) (by decide +kernel) (by rfl) (by rfl) (by omega) (by omega) (by omega) (by omega) rfl ?_
  refine jT_xiload_n (v := (0, 2)) (pcN := 61) jI_263_60 rfl rfl rfl ?_
  refine jT_fA [0, 1, 2, 3, 4, 5, 6, 7, 8, 9, 10, 11, 12, 13, 14, 15, 16, 17, 18, 19, 20, 21] 22 (y := 265) (pcN := 64) (dC := 7) (bc1 := 10) (bc2 := 360) (c1 := 0) (c2 := 0) (as := [(4, 0), (1, 1), (0, 2)]) (asC := [(4, 0), (1, 1), (0, 2)]) (LN := [(0, (4, 0)), (1, (0, x1)), (2, (0, 0)), (3, (0, 2))]) (stN := []) (hsC := jpA_684) (ex := jpA_3654) (v := (1, 0)) (st2 := [(1, 0)]) (hs2 := jpA_3655) (jA_265_969 (d := 0)) (by rfl) (by rfl) (by decide +kernel) (by rfl) (by rfl) (by omega) (by omega) (by omega) (by omega) rfl (by decide +kernel) ?_
  exact jT_ret rfl (by decide) (by show 22 ≤ 32; decide) (by omega) (by omega) ⟨rfl, rfl, rfl⟩
theorem jA_116_1307 {xs : List Int} {d : Nat} {x2 : Int} (h_x2 : 1 ≤ x2 ∧ x2 ≤ 9) : jT xs d 116 1 0 [(0, (4, 0)), (1, (0, x2)), (2, (0, 0)), (3, (0, 9))] [] [jgh] 0 0 (fun k v hsN => k = 0 ∧ v = (9, 0) ∧ hsN = [jgh] ++ []) := by
  refine jT_xiload_n (v := (0, x2)) (pcN := 1) jI_116_0 rfl rfl rfl ?_
  refine jT_xiload_n (v := (0, 0)) (pcN := 2) jI_116_1 rfl rfl rfl ?_
  refine jT_icF (a := x2) (b := 0) (t := 10) (by rfl) (by rfl) (by rfl) (jw_idd (by omega) (by omega)) (jw_idd (by omega) (by omega)) (by simp only [jcP] <;> omega) ?_
  refine jT_xiload_n (v := (0, x2)) (pcN := 6) jI_116_5 rfl rfl rfl ?_
  refine jT_xiload_n (v := (0, 9)) (pcN := 7) jI_116_6 rfl rfl rfl ?_
  refine jT_icT (a := x2) (b := 9) (t := 21) (by rfl) (by rfl) (by rfl) (jw_idd (by omega) (by omega)) (jw_idd (by omega) (by omega)) (by simp only [jcP] <;> omega) ?_
  exact jT_ret rfl (by decide) (by show 1 ≤ 1; decide) (by omega) (by omega) ⟨rfl, rfl, rfl⟩
theorem jA_116_1308 {xs : List Int} {d : Nat} : jT xs d 116 1 0 [(0, (4, 0)), (1, (0, 1)), (2, (0, 0)), (3, (0, 9))] [] [jgh] 0 0 (fun k v hsN => k = 0 ∧ v = (9, 0) ∧ hsN = [jgh] ++ []) := by
  refine jT_advK 6 (pcN := 21) (LN := [(0, (4, 0)), (1, (0, 1)), (2, (0, 0)), (3, (0, 9))]) (stN := []) (hsN := [jgh]) (c1 := 0) (s1 := 0) (c2 := 0) (s2 := 0) (by decide +kernel) ?_ (by omega) (by omega)
  exact jT_ret rfl (by decide) (by show 1 ≤ 1; decide) (by omega) (by omega) ⟨rfl, rfl, rfl⟩
theorem jA_45_1309 {xs : List Int} {d : Nat} : jT xs (d + 1) 45 4 0 [(0, (4, 0)), (1, (4, 1)), (2, (1, 1)), (4, (1, 12000))] [] jpA_625 0 0 (fun k v hsN => k = 0 ∧ v = (1, 0) ∧ hsN = jpA_625 ++ []) := by
  refine jT_advK 10 (pcN := 17) (LN := [(0, (4, 0)), (1, (4, 1)), (2, (1, 1)), (4, (1, 12000))]) (stN := [(4, 1), (4, 0)]) (hsN := jpA_625) (c1 := 0) (s1 := 0) (c2 := 0) (s2 := 0) (by decide +kernel) ?_ (by omega) (by omega)
  refine jT_fR [0, 1] 4 (y := 39) (pcN := 20) (dC := 0) (bc1 := 0) (bc2 := 0) (c1 := 0) (c2 := 0) (as := [(4, 0), (4, 1)]) (asC := [(4, 0), (4, 1)]) (LN := [(0, (4, 0)), (1, (4, 1)), (2, (1, 1)), (4, (1, 12000))]) (stN := []) (hsC := [jgh, (101, [], [0, 0, 0, 0, 0, 0])]) (v := (1, 0)) (st2 := [(1, 0)]) (jA_39_144 (d := 0)) (by rfl) (by rfl) (by decide +kernel) (by rfl) (by rfl) (by omega) (by omega) (by omega) (by omega) rfl ?_
  refine jT_advK 11 (pcN := 36) (LN := [(6, (1, 0)), (0, (4, 0)), (1, (4, 1)), (2, (1, 1)), (4, (1, 12000))]) (stN := [(1, 1), (1, 0)]) (hsN := jpA_625) (c1 := 0) (s1 := 0) (c2 := 0) (s2 := 0) (by decide +kernel) ?_ (by omega) (by omega)
  refine jT_fR [] 4 (y := 373) (pcN := 39) (dC := 0) (bc1 := 0) (bc2 := 0) (c1 := 0) (c2 := 0) (as := [(1, 0), (1, 1)]) (asC := [(1, 0), (1, 1)]) (LN := [(6, (1, 0)), (0, (4, 0)), (1, (4, 1)), (2, (1, 1)), (4, (1, 12000))]) (stN := []) (hsC := []) (v := (1, 0)) (st2 := [(1, 0)]) (jA_373_145 (d := 0)) (by rfl) (by rfl) (by decide +kernel) (by rfl) (by rfl) (by omega) (by omega) (by omega) (by omega) rfl ?_
  exact jT_ret rfl (by decide) (by show 4 ≤ 4; decide) (by omega) (by omega) ⟨rfl, rfl, rfl⟩
theorem jA_44_1310 {xs : List Int} {d : Nat} : jT xs (d + 2) 44 5 0 [(0, (4, 0)), (1, (4, 1)), (2, (1, 12000))] [] jpA_626 0 0 (fun k v hsN => k = 0 ∧ v = (1, 0) ∧ hsN = jpA_626 ++ []) := by
  refine jT_advK 6 (pcN := 10) (LN := [(0, (4, 0)), (1, (4, 1)), (2, (1, 12000))]) (stN := [(1, 12000), (1, 1), (4, 4), (4, 0)]) (hsN := jpA_626) (c1 := 0) (s1 := 0) (c2 := 0) (s2 := 0) (by decide +kernel) ?_ (by omega) (by omega)
  refine jT_fR [0, 4, 2, 3] 5 (y := 45) (pcN := 13) (dC := 1) (bc1 := 0) (bc2 := 0) (c1 := 0) (c2 := 0) (as := [(4, 0), (4, 4), (1, 1), (1, 12000)]) (asC := [(4, 0), (4, 1), (1, 1), (1, 12000)]) (LN := [(0, (4, 0)), (1, (4, 1)), (2, (1, 12000))]) (stN := []) (hsC := jpA_625) (v := (1, 0)) (st2 := [(1, 0)]) (jA_45_1309 (d := 0)) (by rfl) (by rfl) (by decide +kernel) (by rfl) (by rfl) (by omega) (by omega) (by omega) (by omega) rfl ?_
  exact jT_ret rfl (by decide) (by show 5 ≤ 5; decide) (by omega) (by omega) ⟨rfl, rfl, rfl⟩
theorem jA_108_1311 {xs : List Int} {d : Nat} : jT xs (d + 3) 108 16 0 [(0, (4, 0)), (1, (4, 1)), (2, (0, 1)), (3, (0, 0))] [] jpA_4325 0 0 (fun k v hsN => k = 0 ∧ v = (1, 0) ∧ hsN = jpA_4325 ++ []) := by
  refine jT_advK 25 (pcN := 55) (LN := [(6, (0, 1)), (4, (1, 12000)), (0, (4, 0)), (1, (4, 1)), (2, (0, 1)), (3, (0, 0))]) (stN := [(1, 12000), (4, 1), (4, 2)]) (hsN := jpA_4325) (c1 := 0) (s1 := 0) (c2 := 0) (s2 := 0) (by decide +kernel) ?_ (by omega) (by omega)
  refine jT_fR [2, 1, 14, 15, 13] 16 (y := 44) (pcN := 58) (dC := 2) (bc1 := 0) (bc2 := 0) (c1 := 0) (c2 := 0) (as := [(4, 2), (4, 1), (1, 12000)]) (asC := [(4, 0), (4, 1), (1, 12000)]) (LN := [(6, (0, 1)), (4, (1, 12000)), (0, (4, 0)), (1, (4, 1)), (2, (0, 1)), (3, (0, 0))]) (stN := []) (hsC := jpA_626) (v := (1, 0)) (st2 := [(1, 0)]) (jA_44_1310 (d := 0)) (by rfl) (by rfl) (by decide +kernel) (by rfl) (by rfl) (by omega) (by omega) (by omega) (by omega) rfl ?_
  exact jT_ret rfl (by decide) (by show 16 ≤ 16; decide) (by omega) (by omega) ⟨rfl, rfl, rfl⟩
theorem jA_140_1312 {xs : List Int} {d : Nat} {x1 : Int} (h_x1 : 0 ≤ x1 ∧ x1 ≤ 7) : jT xs (d + 4) 140 21 0 [(0, (4, 0)), (1, (0, x1)), (2, (0, 1)), (3, (0, 0))] [] jpA_3958 0 0 (fun k v hsN => k = 0 ∧ v = (1, 0) ∧ hsN = jpA_3958 ++ []) := by
  refine jT_xaload_n (v := (4, 0)) (pcN := 1) jI_140_0 rfl rfl rfl ?_
  refine jT_xiload_n (v := (0, x1)) (pcN := 2) jI_140_1 rfl rfl rfl ?_
  refine jT_xbipush (k := 8) (pcN := 4) jI_140_2 (by decide) rfl ?_
  refine jT_fR [0] 21 (y := 115) (pcN := 7) (dC := 0) (bc1 := 0) (bc2 := 0) (c1 := 0) (c2 := 0) (as := [(4, 0), (0, x1), (0, 8)]) (asC := [(4, 0), (0, x1), (0, 8)]) (LN := [(0, (4, 0)), (1, (0, x1)), (2, (0, 1)), (3, (0, 0))]) (stN := []) (hsC := [jgh]) (v := (9, 0)) (st2 := []) (jA_115_9 (d := 0) (by omega)) (by rfl) (by rfl) (by decide +kernel) (by rfl) (by rfl) (by omega) (by omega) (by omega) (by omega) rfl ?_
  refine jT_xaload_n (v := (4, 0)) (pcN := 8) jI_140_7 rfl rfl rfl ?_
  refine jT_xiload_n (v := (0, 1)) (pcN := 9) jI_140_8 rfl rfl rfl ?_
  refine jT_xiconst (k := 0) (pcN := 10) jI_140_9 rfl ?_
  refine jT_xbipush (k := 9) (pcN := 12) jI_140_10 (by decide) rfl ?_
  refine jT_fR [0] 21 (y := 116) (pcN := 15) (dC := 0) (bc1 := 0) (bc2 := 0) (c1 := 0) (c2 := 0) (as := [(4, 0), (0, 1), (0, 0), (0, 9)]) (asC := [(4, 0), (0, 1), (0, 0), (0, 9)]) (LN := [(0, (4, 0)), (1, (0, x1)), (2, (0, 1)), (3, (0, 0))]) (stN := []) (hsC := [jgh]) (v := (9, 0)) (st2 := []) (jA_116_1308 (d := 0)) (by rfl) (by rfl) (by decide +kernel) (by rfl) (by rfl) (by omega) (by omega) (by omega) (by omega) rfl ?_
  refine jT_xaload_n (v := (4, 0)) (pcN := 16) jI_140_15 rfl rfl rfl ?_
  refine jT_xiload_n (v := (0, 0)) (pcN := 17) jI_140_16 rfl rfl rfl ?_
  refine jT_xiconst (k := 0) (pcN := 18) jI_140_17 rfl ?_
  refine jT_xiconst (k := 2) (pcN := 19) jI_140_18 rfl ?_
  refine jT_fR [0] 21 (y := 116) (pcN := 22) (dC := 0) (bc1 := 0) (bc2 := 0) (c1 := 0) (c2 := 0) (as := [(4, 0), (0, 0), (0, 0), (0, 2)]) (asC := [(4, 0), (0, 0), (0, 0), (0, 2)]) (LN := [(0, (4, 0)), (1, (0, x1)), (2, (0, 1)), (3, (0, 0))]) (stN := []) (hsC := [jgh]) (v := (9, 0)) (st2 := []) (jA_116_1279 (d := 0)) (by rfl) (by rfl) (by decide +kernel) (by rfl) (by rfl) (by omega) (by omega) (by omega) (by omega) rfl ?_
  refine jT_xaload_n (v := (4, 0)) (pcN := 23) jI_140_22 rfl rfl rfl ?_
  refine jT_xaload_n (v := (4, 0)) (pcN := 24) jI_140_23 rfl rfl rfl ?_
  refine jT_xgetf (a := 0) (t := 1) (ci := 13) (fi := 11) (c := jzA_5) (v := (4, 11)) (pcN := 27) jI_140_24 rfl rfl rfl rfl rfl rfl rfl ?_
  refine jT_xiload_n (v := (0, x1)) (pcN := 28) jI_140_27 rfl rfl rfl ?_
  refine jT_fR [11, 14, 15, 16, 17, 18, 19] 21 (y := 57) (pcN := 31) (dC := 0) (bc1 := 0) (bc2 := 0) (c1 := 0) (c2 := 0) (as := [(4, 11), (0, x1)]) (asC := [(4, 0), (0, x1)]) (LN := [(0, (4, 0)), (1, (0, x1)), (2, (0, 1)), (3, (0, 0))]) (stN := [(4, 0)]) (hsC := jpA_47) (v := (4, 6)) (st2 := [(4, 19), (4, 0)]) (jA_57_108 (d := 0) (by omega)) (by rfl) (by rfl) (by decide +kernel) (by rfl) (by rfl) (by omega) (by omega) (by omega) (by omega) rfl ?_
  refine jT_xiload_n (v := (0, 1)) (pcN := 32) jI_140_31 rfl rfl rfl ?_
  refine jT_xiload_n (v := (0, 0)) (pcN := 33) jI_140_32 rfl rfl rfl ?_
  refine jT_fR [0, 19, 1, 2, 3, 4, 5, 6, 7, 8, 9, 10, 11, 20, 12, 13] 21 (y := 108) (pcN := 36) (dC := 3) (bc1 := 0) (bc2 := 0) (c1 := 0) (c2 := 0) (as := [(4, 0), (4, 19), (0, 1), (0, 0)]) (asC := [(4, 0), (4, 1), (0, 1), (0, 0)]) (LN := [(0, (4, 0)), (1, (0, x1)), (2, (0, 1)), (3, (0, 0))]) (stN := []) (hsC := jpA_4325) (v := (1, 0)) (st2 := [(1, 0)]) (jA_108_1311 (d := 0)) (by rfl) (by rfl) (by decide +kernel) (by rfl) (by rfl) (by omega) (by omega) (by omega) (by omega) rfl ?_
  exact jT_ret rfl (by decide) (by show 21 ≤ 21; decide) (by omega) (by omega) ⟨rfl, rfl, rfl⟩
theorem jA_347_1313 {xs : List Int} {d : Nat} {x1 : Int} (h_x1 : 0 ≤ x1 ∧ x1 ≤ 7) : jT xs (d + 5) 347 22 0 [(0, (4, 0)), (1, (0, x1)), (2, (0, 1)), (3, (0, 0)), (4, (4, 1))] [] jpA_4038 0 0 (fun k v hsN => k = 0 ∧ v = (0, 0) ∧ hsN = jpA_4038 ++ []) := by
  refine jT_xaload (v := (4, 1)) (pcN := 2) jI_347_0 rfl rfl rfl ?_
  refine jT_xiconst (k := 0) (pcN := 3) jI_347_2 rfl ?_
  refine jT_xaload_n (v := (4, 0)) (pcN := 4) jI_347_3 rfl rfl rfl ?_
  refine jT_xiload_n (v := (0, x1)) (pcN := 5) jI_347_4 rfl rfl rfl ?_
  refine jT_xiload_n (v := (0, 1)) (pcN := 6) jI_347_5 rfl rfl rfl ?_
  refine jT_xiload_n (v := (0, 0)) (pcN := 7) jI_347_6 rfl rfl rfl ?_
  refine jT_fR [0, 2, 3, 4, 5, 6, 7, 8, 9, 10, 11, 12, 13, 14, 15, 16, 17, 18, 19, 20, 21] 22 (y := 140) (pcN := 10) (dC := 4) (bc1 := 0) (bc2 := 0) (c1 := 0) (c2 := 0) (as := [(4, 0), (0, x1), (0, 1), (0, 0)]) (asC := [(4, 0), (0, x1), (0, 1), (0, 0)]) (LN := [(0, (4, 0)), (1, (0, x1)), (2, (0, 1)), (3, (0, 0)), (4, (4, 1))]) (stN := [(0, 0), (4, 1)]) (hsC := jpA_3958) (v := (1, 0)) (st2 := [(1, 0), (0, 0), (4, 1)]) (jA_140_1312 (d := 0) (by omega)) (by rfl) (by rfl) (by decide +kernel) (by rfl) (by rfl) (by omega) (by omega) (by omega) (by omega) rfl ?_
  refine jT_adv 1 (pcN := 11) (LN := [(0, (4, 0)), (1, (0, x1)), (2, (0, 1)), (3, (0, 0)), (4, (4, 1))]) (stN := []) (hsN := jpA_4038) (c1 := 0) (s1 := 0) (c2 := 0) (s2 := 0) (by exact rfl) ?_ (by omega) (by omega)
  refine jT_xgoto (pcN := 22) jI_347_11 rfl ?_
  refine jT_xiconst (k := 0) (pcN := 23) jI_347_22 rfl ?_
  exact jT_ret rfl (by decide) (by show 22 ≤ 22; decide) (by omega) (by omega) ⟨rfl, rfl, rfl⟩
theorem jA_189_1314 {xs : List Int} {d : Nat} : jT xs d 189 0 0 [(0, (1, 1)), (2, (1, 0)), (4, (1, 9))] [] [] 0 0 (fun k v hsN => k = 0 ∧ v = (0, 1) ∧ hsN = [] ++ []) := by
  refine jT_advK 10 (pcN := 18) (LN := [(0, (1, 1)), (2, (1, 0)), (4, (1, 9))]) (stN := [(0, 1)]) (hsN := []) (c1 := 0) (s1 := 0) (c2 := 0) (s2 := 0) (by decide +kernel) ?_ (by omega) (by omega)
  exact jT_ret rfl (by decide) (by show 0 ≤ 0; decide) (by omega) (by omega) ⟨rfl, rfl, rfl⟩
theorem jA_264_1315 {xs : List Int} {d : Nat} : jT xs d 264 0 0 [(0, (0, 1))] [] [] 0 0 (fun k v hsN => k = 0 ∧ v = (1, 10) ∧ hsN = [] ++ []) := by
  refine jT_advK 17 (pcN := 22) (LN := [(3, (0, 1)), (1, (1, 10)), (0, (0, 1))]) (stN := [(1, 10)]) (hsN := []) (c1 := 0) (s1 := 0) (c2 := 0) (s2 := 0) (by decide +kernel) ?_ (by omega) (by omega)
  exact jT_ret rfl (by decide) (by show 0 ≤ 0; decide) (by omega) (by omega) ⟨rfl, rfl, rfl⟩
theorem jA_218_1316 {xs : List Int} {d : Nat} : jT xs d 218 16 0 [(0, (4, 0)), (1, (1, 12000))] [] jpA_147 1 6 (fun k v hsN => k = 0 ∧ v = (4, 16) ∧ hsN = jpA_147 ++ [(101, [], [0, 0, 0, 0, 0, 0])]) := by
  refine jT_advK 93 (pcN := 35) (LN := [(4, (0, 6)), (3, (4, 16)), (0, (4, 0)), (1, (1, 12000))]) (stN := [(4, 16)]) (hsN := jpA_984) (c1 := 1) (s1 := 6) (c2 := 0) (s2 := 0) (by decide +kernel) ?_ (by omega) (by omega)
  exact jT_ret rfl (by decide) (by show 16 ≤ 17; decide) (by omega) (by omega) ⟨rfl, rfl, rfl⟩
theorem jA_265_1317 {xs : List Int} {d : Nat} : jT xs (d + 6) 265 22 0 [(0, (4, 0)), (1, (1, 10)), (3, (0, 0))] [] jpA_684 6 186 (fun k v hsN => k = 0 ∧ v = (1, 0) ∧ hsN = jpA_684 ++ jpA_4341) := by
  refine jT_advK 4 (pcN := 6) (LN := [(0, (4, 0)), (1, (1, 10)), (3, (0, 0))]) (stN := [(1, 12000), (4, 0)]) (hsN := jpA_684) (c1 := 0) (s1 := 0) (c2 := 6) (s2 := 186) (by decide +kernel) ?_ (by omega) (by omega)
  refine jT_fA [0, 1, 2, 3, 4, 5, 6, 7, 8, 9, 10, 11, 12, 13, 14, 15] 22 (y := 218) (pcN := 9) (dC := 0) (bc1 := 1) (bc2 := 6) (c1 := 5) (c2 := 180) (as := [(4, 0), (1, 12000)]) (asC := [(4, 0), (1, 12000)]) (LN := [(0, (4, 0)), (1, (1, 10)), (3, (0, 0))]) (stN := []) (hsC := jpA_147) (ex := [(101, [], [0, 0, 0, 0, 0, 0])]) (v := (4, 16)) (st2 := [(4, 22)]) (hs2 := jpA_3652) (jA_218_1316 (d := 0)) (by rfl) (by rfl) (by decide +kernel) (by rfl) (by rfl) (by omega) (by omega) (by omega) (by omega) rfl (by decide +kernel) ?_
  refine jT_advK 8 (pcN := 34) (LN := [(4, (4, 22)), (0, (4, 0)), (1, (1, 10)), (3, (0, 0))]) (stN := [(1, 1), (4, 22), (4, 0)]) (hsN := jpA_3652) (c1 := 0) (s1 := 0) (c2 := 5) (s2 := 180) (by decide +kernel) ?_ (by omega) (by omega)
  refine jT_fA [0, 22, 1, 2, 3, 4, 5, 6, 7, 8, 9, 10, 11, 12, 13, 14, 15, 16, 17, 18, 19, 20, 21] 23 (y := 210) (pcN := 37) (dC := 5) (bc1 := 5) (bc2 := 180) (c1 := 0) (c2 := 0) (as := [(4, 0), (4, 22), (1, 1)]) (asC := [(4, 0), (4, 1), (1, 1)]) (LN := [(4, (4, 22)), (0, (4, 0)), (1, (1, 10)), (3, (0, 0))]) (stN := []) (hsC := jpA_987) (ex := jpA_683) (v := (1, 0)) (st2 := [(1, 0)]) (hs2 := jpA_4340) (jA_210_1290 (d := 0)) (by rfl) (by rfl) (by decide +kernel) (by rfl) (by rfl) (by omega) (by omega) (by omega) (by omega) rfl (by decide +kernel) ?_
  refine jT_advK 5 (pcN := 68) (LN := [(5, (1, 0)), (4, (4, 22)), (0, (4, 0)), (1, (1, 10)), (3, (0, 0))]) (stN := [(1, 0)]) (hsN := jpA_4340) (c1 := 0) (s1 := 0) (c2 := 0) (s2 := 0) (by decide +kernel) ?_ (by omega) (by omega)
  exact jT_ret rfl (by decide) (by show 22 ≤ 28; decide) (by omega) (by omega) ⟨rfl, rfl, rfl⟩
theorem jA_263_1318 {xs : List Int} {d : Nat} {x1 : Int} (h_x1 : 0 ≤ x1 ∧ x1 ≤ 7) : jT xs (d + 7) 263 22 0 [(0, (4, 0)), (1, (0, x1)), (2, (0, 1)), (3, (0, 0))] [] jpA_1695 6 186 (fun k v hsN => k = 0 ∧ v = (1, 0) ∧ hsN = jpA_1695 ++ jpA_4341) := by
  refine jT_xaload_n (v := (4, 0)) (pcN := 1) jI_263_0 rfl rfl rfl ?_
  refine jT_xiload_n (v := (0, x1)) (pcN := 2) jI_263_1 rfl rfl rfl ?_
  refine jT_fR [] 22 (y := 188) (pcN := 5) (dC := 1) (bc1 := 0) (bc2 := 0) (c1 := 6) (c2 := 186) (as := [(0, x1)]) (asC := [(0, x1)]) (LN := [(0, (4, 0)), (1, (0, x1)), (2, (0, 1)), (3, (0, 0))]) (stN := [(4, 0)]) (hsC := []) (v := (0, 1)) (st2 := [(0, 1), (4, 0)]) (jA_188_13 (d := 0) (by omega)) (by rfl) (by rfl) (by decide +kernel) (by rfl) (by rfl) (by omega) (by omega) (by omega) (by omega) rfl ?_
  refine jT_fR [0, 1, 2, 3, 4, 5, 6, 7, 8, 9, 10, 11, 12, 13, 14, 15] 22 (y := 190) (pcN := 8) (dC := 1) (bc1 := 0) (bc2 := 0) (c1 := 6) (c2 := 186) (as := [(4, 0), (0, 1)]) (asC := [(4, 0), (0, 1)]) (LN := [(0, (4, 0)), (1, (0, x1)), (2, (0, 1)), (3, (0, 0))]) (stN := []) (hsC := jpA_22) (v := (0, 0)) (st2 := [(0, 0)]) (jA_190_39 (d := 0)) (by rfl) (by rfl) (by decide +kernel) (by rfl) (by rfl) (by omega) (by omega) (by omega) (by omega) rfl ?_
  refine jT_xifF (t := 48) (pcN := 11) jI_263_8 rfl (by decide +kernel) rfl rfl ?_
  refine jT_xaload_n (v := (4, 0)) (pcN := 12) jI_263_11 rfl rfl rfl ?_
  refine jT_xiload_n (v := (0, 1)) (pcN := 13) jI_263_12 rfl rfl rfl ?_
  refine jT_xi2l (x := 1) (z := 1) (pcN := 14) jI_263_13 rfl (by decide +kernel) rfl ?_
  refine jT_xlconst (z := 0) (pcN := 15) jI_263_14 rfl rfl ?_
  refine jT_adv 1 (pcN := 18) (LN := [(0, (4, 0)), (1, (0, x1)), (2, (0, 1)), (3, (0, 0))]) (stN := [(1, 9), (1, 0), (1, 1), (4, 0)]) (hsN := jpA_1695) (c1 := 0) (s1 := 0) (c2 := 6) (s2 := 186) (by exact rfl) ?_ (by omega) (by omega)
  refine jT_fR [] 22 (y := 189) (pcN := 21) (dC := 0) (bc1 := 0) (bc2 := 0) (c1 := 6) (c2 := 186) (as := [(1, 1), (1, 0), (1, 9)]) (asC := [(1, 1), (1, 0), (1, 9)]) (LN := [(0, (4, 0)), (1, (0, x1)), (2, (0, 1)), (3, (0, 0))]) (stN := [(4, 0)]) (hsC := []) (v := (0, 1)) (st2 := [(0, 1), (4, 0)]) (jA_189_1314 (d := 0)) (by rfl) (by rfl) (by decide +kernel) (by rfl) (by rfl) (by omega) (by omega) (by omega) (by omega) rfl ?_
  refine jT_xifF (t := 40) (pcN := 24) jI_263_21 rfl (by decide +kernel) rfl rfl ?_
  refine jT_xiload_n (v := (0, 0)) (pcN := 25) jI_263_24 rfl rfl rfl ?_
  refine jT_xi2l (x := 0) (z := 0) (pcN := 26) jI_263_25 rfl (by decide +kernel) rfl ?_
  refine jT_xlconst (z := 0) (pcN := 27) jI_263_26 rfl rfl ?_
  refine jT_adv 1 (pcN := 30) (LN := [(0, (4, 0)), (1, (0, x1)), (2, (0, 1)), (3, (0, 0))]) (stN := [(1, 2), (1, 0), (1, 0), (4, 0)]) (hsN := jpA_1695) (c1 := 0) (s1 := 0) (c2 := 6) (s2 := 186) (by exact rfl) ?_ (by omega) (by omega)
  refine jT_fR [] 22 (y := 189) (pcN := 33) (dC := 0) (bc1 := 0) (bc2 := 0) (c1 := 6) (c2 := 186) (as := [(1, 0), (1, 0), (1, 2)]) (asC := [(1, 0), (1, 0), (1, 2)]) (LN := [(0, (4, 0)), (1, (0, x1)), (2, (0, 1)), (3, (0, 0))]) (stN := [(4, 0)]) (hsC := []) (v := (0, 1)) (st2 := [(0, 1), (4, 0)]) (jA_189_1286 (d := 0)) (by rfl) (by rfl) (by decide +kernel) (by rfl) (by rfl) (by omega) (by omega) (by omega) (by omega) rfl ?_
  refine jT_xifF (t := 40) (pcN := 36) jI_263_33 rfl (by decide +kernel) rfl rfl ?_
  refine jT_xiconst (k := 1) (pcN := 37) jI_263_36 rfl ?_
  refine jT_xgoto (pcN := 41) jI_263_37 rfl ?_
  refine jT_xiconst (k := 2) (pcN := 42) jI_263_41 rfl ?_
  refine jT_fR [0] 22 (y := 191) (pcN := 45) (dC := 0) (bc1 := 0) (bc2 := 0) (c1 := 6) (c2 := 186) (as := [(4, 0), (0, 1), (0, 2)]) (asC := [(4, 0), (0, 1), (0, 2)]) (LN := [(0, (4, 0)), (1, (0, x1)), (2, (0, 1)), (3, (0, 0))]) (stN := []) (hsC := [jgh]) (v := (0, 0)) (st2 := [(0, 0)]) (jA_191_49 (d := 0)) (by rfl) (by rfl) (by decide +kernel) (by rfl) (by rfl) (by omega) (by omega) (by omega) (by omega) rfl ?_
  refine jT_xifT (pcN := 50) jI_263_45 rfl (by decide +kernel) rfl ?_
  refine jT_xaload_n (v := (4, 0)) (pcN := 51) jI_263_50 rfl rfl rfl ?_
  refine jT_xiload_n (v := (0, x1)) (pcN := 52) jI_263_51 rfl rfl rfl ?_
  refine jT_fR [0, 1, 2, 3, 4, 5, 6, 7, 8, 9, 10, 11, 12, 13, 14, 15] 22 (y := 202) (pcN := 55) (dC := 1) (bc1 := 0) (bc2 := 0) (c1 := 6) (c2 := 186) (as := [(4, 0), (0, x1)]) (asC := [(4, 0), (0, x1)]) (LN := [(0, (4, 0)), (1, (0, x1)), (2, (0, 1)), (3, (0, 0))]) (stN := []) (hsC := jpA_130) (v := (9, 0)) (st2 := []) (jA_202_115 (d := 0) (by omega)) (by rfl) (by rfl) (by decide +kernel) (by rfl) (by rfl) (by omega) (by omega) (by omega) (by omega) rfl ?_
  refine jT_xaload_n (v := (4, 0)) (pcN := 56) jI_263_55 rfl rfl rfl ?_
  refine jT_xiload_n (v := (0, 1)) (pcN := 57) jI_263_56 rfl rfl rfl ?_
  refine jT_fR [] 22 (y := 264) (pcN := 60) (dC := 0) (bc1 := 0) (bc2 := 0) (c1 := 6) (c2 := 186) (as := [(0, 1)]) (asC := [(0, 1)]) (LN := [(0, (4, 0)), (1, (0, x1)), (2, (0, 1)), (3, (0, 0))]) (stN := [(4, 0)]) (hsC := []) (v := (1, 10)) (st2 := [(1, 10), (4, 0)]) (jA_264_1315 (d := 0)) (by rfl) (by rfl) (by decide +kernel) (by rfl) (by rfl) (by omega) (by omega) (by omega) (by omega) rfl ?_
  refine jT_xiload_n (v := (0, 0)) (pcN := 61) jI_263_60 rfl rfl rfl ?_
  refine jT_fA [0, 1, 2, 3, 4, 5, 6, 7, 8, 9, 10, 11, 12, 13, 14, 15, 16, 17, 18, 19, 20, 21] 22 (y := 265) (pcN := 64) (dC := 6) (bc1 := 6) (bc2 := 186) (c1 := 0) (c2 := 0) (as := [(4, 0), (1, 10), (0, 0)]) (asC := [(4, 0), (1, 10), (0, 0)]) (LN := [(0, (4, 0)), (1, (0, x1)), (2, (0, 1)), (3, (0, 0))]) (stN := []) (hsC := jpA_684) (ex := jpA_4341) (v := (1, 0)) (st2 := [(1, 0)]) (hs2 := jpA_4349) (jA_265_1317 (d := 0)) (by rfl) (by rfl) (by decide +kernel) (by rfl) (by rfl) (by omega) (by omega) (by omega) (by omega) rfl (by decide +kernel) ?_
  exact jT_ret rfl (by decide) (by show 22 ≤ 28; decide) (by omega) (by omega) ⟨rfl, rfl, rfl⟩
theorem jA_108_1319 {xs : List Int} {d : Nat} : jT xs (d + 3) 108 16 0 [(0, (4, 0)), (1, (4, 1)), (2, (0, 1)), (3, (0, 1))] [] jpA_4325 2 8 (fun k v hsN => k = 0 ∧ v = (1, 0) ∧ hsN = jpA_4325 ++ [(101, [], [0, 0, 0, 0, 0, 0]), (4, [(4, 16), (1, 1)], [])]) := by
  refine jT_advK 27 (pcN := 69) (LN := [(6, (0, 1)), (4, (1, 12000)), (0, (4, 0)), (1, (4, 1)), (2, (0, 1)), (3, (0, 1))]) (stN := [(1, 0), (1, 1), (1, (-1)), (4, 1), (4, 2)]) (hsN := jpA_4325) (c1 := 0) (s1 := 0) (c2 := 2) (s2 := 8) (by decide +kernel) ?_ (by omega) (by omega)
  refine jT_fA [1, 13] 16 (y := 10) (pcN := 72) (dC := 2) (bc1 := 2) (bc2 := 8) (c1 := 0) (c2 := 0) (as := [(4, 1), (1, (-1)), (1, 1), (1, 0)]) (asC := [(4, 0), (1, (-1)), (1, 1), (1, 0)]) (LN := [(6, (0, 1)), (4, (1, 12000)), (0, (4, 0)), (1, (4, 1)), (2, (0, 1)), (3, (0, 1))]) (stN := [(4, 2)]) (hsC := [(4, [(4, 1), (1, 1)], []), (101, [], [0, 0, 0, 0, 0, 0])]) (ex := [(101, [], [0, 0, 0, 0, 0, 0]), (4, [(4, 2), (1, 1)], [])]) (v := (4, 3)) (st2 := [(4, 17), (4, 2)]) (hs2 := jpA_4350) (jA_10_1294 (d := 0)) (by rfl) (by rfl) (by decide +kernel) (by rfl) (by rfl) (by omega) (by omega) (by omega) (by omega) rfl (by decide +kernel) ?_
  refine jT_advK 1 (pcN := 74) (LN := [(6, (0, 1)), (4, (1, 12000)), (0, (4, 0)), (1, (4, 1)), (2, (0, 1)), (3, (0, 1))]) (stN := [(1, 12000), (4, 17), (4, 2)]) (hsN := jpA_4350) (c1 := 0) (s1 := 0) (c2 := 0) (s2 := 0) (by decide +kernel) ?_ (by omega) (by omega)
  refine jT_fR [2, 17, 14, 15, 16] 18 (y := 44) (pcN := 77) (dC := 2) (bc1 := 0) (bc2 := 0) (c1 := 0) (c2 := 0) (as := [(4, 2), (4, 17), (1, 12000)]) (asC := [(4, 0), (4, 1), (1, 12000)]) (LN := [(6, (0, 1)), (4, (1, 12000)), (0, (4, 0)), (1, (4, 1)), (2, (0, 1)), (3, (0, 1))]) (stN := []) (hsC := jpA_626) (v := (1, 0)) (st2 := [(1, 0)]) (jA_44_1310 (d := 0)) (by rfl) (by rfl) (by decide +kernel) (by rfl) (by rfl) (by omega) (by omega) (by omega) (by omega) rfl ?_
  refine jT_advK 1 (pcN := 78) (LN := [(6, (0, 1)), (4, (1, 12000)), (0, (4, 0)), (1, (4, 1)), (2, (0, 1)), (3, (0, 1))]) (stN := [(1, 0)]) (hsN := jpA_4350) (c1 := 0) (s1 := 0) (c2 := 0) (s2 := 0) (by decide +kernel) ?_ (by omega) (by omega)
  exact jT_ret rfl (by decide) (by show 16 ≤ 18; decide) (by omega) (by omega) ⟨rfl, rfl, rfl⟩
theorem jA_140_1320 {xs : List Int} {d : Nat} {x1 : Int} (h_x1 : 0 ≤ x1 ∧ x1 ≤ 7) : jT xs (d + 4) 140 21 0 [(0, (4, 0)), (1, (0, x1)), (2, (0, 1)), (3, (0, 1))] [] jpA_3958 2 8 (fun k v hsN => k = 0 ∧ v = (1, 0) ∧ hsN = jpA_3958 ++ [(101, [], [0, 0, 0, 0, 0, 0]), (4, [(4, 21), (1, 1)], [])]) := by
  refine jT_xaload_n (v := (4, 0)) (pcN := 1) jI_140_0 rfl rfl rfl ?_
  refine jT_xiload_n (v := (0, x1)) (pcN := 2) jI_140_1 rfl rfl rfl ?_
  refine jT_xbipush (k := 8) (pcN := 4) jI_140_2 (by decide) rfl ?_
  refine jT_fR [0] 21 (y := 115) (pcN := 7) (dC := 0) (bc1 := 0) (bc2 := 0) (c1 := 2) (c2 := 8) (as := [(4, 0), (0, x1), (0, 8)]) (asC := [(4, 0), (0, x1), (0, 8)]) (LN := [(0, (4, 0)), (1, (0, x1)), (2, (0, 1)), (3, (0, 1))]) (stN := []) (hsC := [jgh]) (v := (9, 0)) (st2 := []) (jA_115_9 (d := 0) (by omega)) (by rfl) (by rfl) (by decide +kernel) (by rfl) (by rfl) (by omega) (by omega) (by omega) (by omega) rfl ?_
  refine jT_xaload_n (v := (4, 0)) (pcN := 8) jI_140_7 rfl rfl rfl ?_
  refine jT_xiload_n (v := (0, 1)) (pcN := 9) jI_140_8 rfl rfl rfl ?_
  refine jT_xiconst (k := 0) (pcN := 10) jI_140_9 rfl ?_
  refine jT_xbipush (k := 9) (pcN := 12) jI_140_10 (by decide) rfl ?_
  refine jT_fR [0] 21 (y := 116) (pcN := 15) (dC := 0) (bc1 := 0) (bc2 := 0) (c1 := 2) (c2 := 8) (as := [(4, 0), (0, 1), (0, 0), (0, 9)]) (asC := [(4, 0), (0, 1), (0, 0), (0, 9)]) (LN := [(0, (4, 0)), (1, (0, x1)), (2, (0, 1)), (3, (0, 1))]) (stN := []) (hsC := [jgh]) (v := (9, 0)) (st2 := []) (jA_116_1308 (d := 0)) (by rfl) (by rfl) (by decide +kernel) (by rfl) (by rfl) (by omega) (by omega) (by omega) (by omega) rfl ?_
  refine jT_xaload_n (v := (4, 0)) (pcN := 16) jI_140_15 rfl rfl rfl ?_
  refine jT_xiload_n (v := (0, 1)) (pcN := 17) jI_140_16 rfl rfl rfl ?_
  refine jT_xiconst (k := 0) (pcN := 18) jI_140_17 rfl ?_
  refine jT_xiconst (k := 2) (pcN := 19) jI_140_18 rfl ?_
  refine jT_fR [0] 21 (y := 116) (pcN := 22) (dC := 0) (bc1 := 0) (bc2 := 0) (c1 := 2) (c2 := 8) (as := [(4, 0), (0, 1), (0, 0), (0, 2)]) (asC := [(4, 0), (0, 1), (0, 0), (0, 2)]) (LN := [(0, (4, 0)), (1, (0, x1)), (2, (0, 1)), (3, (0, 1))]) (stN := []) (hsC := [jgh]) (v := (9, 0)) (st2 := []) (jA_116_1293 (d := 0)) (by rfl) (by rfl) (by decide +kernel) (by rfl) (by rfl) (by omega) (by omega) (by omega) (by omega) rfl ?_
  refine jT_xaload_n (v := (4, 0)) (pcN := 23) jI_140_22 rfl rfl rfl ?_
  refine jT_xaload_n (v := (4, 0)) (pcN := 24) jI_140_23 rfl rfl rfl ?_
  refine jT_xgetf (a := 0) (t := 1) (ci := 13) (fi := 11) (c := jzA_5) (v := (4, 11)) (pcN := 27) jI_140_24 rfl rfl rfl rfl rfl rfl rfl ?_
  refine jT_xiload_n (v := (0, x1)) (pcN := 28) jI_140_27 rfl rfl rfl ?_
  refine jT_fR [11, 14, 15, 16, 17, 18, 19] 21 (y := 57) (pcN := 31) (dC := 0) (bc1 := 0) (bc2 := 0) (c1 := 2) (c2 := 8) (as := [(4, 11), (0, x1)]) (asC := [(4, 0), (0, x1)]) (LN := [(0, (4, 0)), (1, (0, x1)), (2, (0, 1)), (3, (0, 1))]) (stN := [(4, 0)]) (hsC := jpA_47) (v := (4, 6)) (st2 := [(4, 19), (4, 0)]) (jA_57_108 (d := 0) (by omega)) (by rfl) (by rfl) (by decide +kernel) (by rfl) (by rfl) (by omega) (by omega) (by omega) (by omega) rfl ?_
  refine jT_xiload_n (v := (0, 1)) (pcN := 32) jI_140_31 rfl rfl rfl ?_
  refine jT_xiload_n (v := (0, 1)) (pcN := 33) jI_140_32 rfl rfl rfl ?_
  refine jT_fA [0, 19, 1, 2, 3, 4, 5, 6, 7, 8, 9, 10, 11, 20, 12, 13] 21 (y := 108) (pcN := 36) (dC := 3) (bc1 := 2) (bc2 := 8) (c1 := 0) (c2 := 0) (as := [(4, 0), (4, 19), (0, 1), (0, 1)]) (asC := [(4, 0), (4, 1), (0, 1), (0, 1)]) (LN := [(0, (4, 0)), (1, (0, x1)), (2, (0, 1)), (3, (0, 1))]) (stN := []) (hsC := jpA_4325) (ex := [(101, [], [0, 0, 0, 0, 0, 0]), (4, [(4, 16), (1, 1)], [])]) (v := (1, 0)) (st2 := [(1, 0)]) (hs2 := jpA_4351) (jA_108_1319 (d := 0)) (by rfl) (by rfl) (by decide +kernel) (by rfl) (by rfl) (by omega) (by omega) (by omega) (by omega) rfl (by decide +kernel) ?_
  exact jT_ret rfl (by decide) (by show 21 ≤ 23; decide) (by omega) (by omega) ⟨rfl, rfl, rfl⟩
theorem jA_347_1321 {xs : List Int} {d : Nat} {x1 : Int} (h_x1 : 0 ≤ x1 ∧ x1 ≤ 7) : jT xs (d + 5) 347 22 0 [(0, (4, 0)), (1, (0, x1)), (2, (0, 1)), (3, (0, 1)), (4, (4, 1))] [] jpA_4038 2 8 (fun k v hsN => k = 0 ∧ v = (0, 0) ∧ hsN = jpA_4038 ++ [(101, [], [0, 0, 0, 0, 0, 0]), (4, [(4, 22), (1, 1)], [])]) := by
  refine jT_xaload (v := (4, 1)) (pcN := 2) jI_347_0 rfl rfl rfl ?_
  refine jT_xiconst (k := 0) (pcN := 3) jI_347_2 rfl ?_
  refine jT_xaload_n (v := (4, 0)) (pcN := 4) jI_347_3 rfl rfl rfl ?_
  refine jT_xiload_n (v := (0, x1)) (pcN := 5) jI_347_4 rfl rfl rfl ?_
  refine jT_xiload_n (v := (0, 1)) (pcN := 6) jI_347_5 rfl rfl rfl ?_
  refine jT_xiload_n (v := (0, 1)) (pcN := 7) jI_347_6 rfl rfl rfl ?_
  refine jT_fA [0, 2, 3, 4, 5, 6, 7, 8, 9, 10, 11, 12, 13, 14, 15, 16, 17, 18, 19, 20, 21] 22 (y := 140) (pcN := 10) (dC := 4) (bc1 := 2) (bc2 := 8) (c1 := 0) (c2 := 0) (as := [(4, 0), (0, x1), (0, 1), (0, 1)]) (asC := [(4, 0), (0, x1), (0, 1), (0, 1)]) (LN := [(0, (4, 0)), (1, (0, x1)), (2, (0, 1)), (3, (0, 1)), (4, (4, 1))]) (stN := [(0, 0), (4, 1)]) (hsC := jpA_3958) (ex := [(101, [], [0, 0, 0, 0, 0, 0]), (4, [(4, 21), (1, 1)], [])]) (v := (1, 0)) (st2 := [(1, 0), (0, 0), (4, 1)]) (hs2 := jpA_4352) (jA_140_1320 (d := 0) (by omega)) (by rfl) (by rfl) (by decide +kernel) (by rfl) (by rfl) (by omega) (by omega) (by omega) (by omega) rfl (by decide +kernel) ?_
  refine jT_adv 1 (pcN := 11) (LN := [(0, (4, 0)), (1, (0, x1)), (2, (0, 1)), (3, (0, 1)), (4, (4, 1))]) (stN := []) (hsN := jpA_4352) (c1 := 0) (s1 := 0) (c2 := 0) (s2 := 0) (by exact rfl) ?_ (by omega) (by omega)
  refine jT_xgoto (pcN := 22) jI_347_11 rfl ?_
  refine jT_xiconst (k := 0) (pcN := 23) jI_347_22 rfl ?_
  exact jT_ret rfl (by decide) (by show 22 ≤ 24; decide) (by omega) (by omega) ⟨rfl, rfl, rfl⟩
theorem jA_265_1322 {xs : List Int} {d : Nat} : jT xs (d + 6) 265 22 0 [(0, (4, 0)), (1, (1, 10)), (3, (0, 1))] [] jpA_684 7 192 (fun k v hsN => k = 0 ∧ v = (1, 0) ∧ hsN = jpA_684 ++ jpA_4354) := by
  refine jT_advK 4 (pcN := 6) (LN := [(0, (4, 0)), (1, (1, 10)), (3, (0, 1))]) (stN := [(1, 12000), (4, 0)]) (hsN := jpA_684) (c1 := 0) (s1 := 0) (c2 := 7) (s2 := 192) (by decide +kernel) ?_ (by omega) (by omega)
  refine jT_fA [0, 1, 2, 3, 4, 5, 6, 7, 8, 9, 10, 11, 12, 13, 14, 15] 22 (y := 218) (pcN := 9) (dC := 0) (bc1 := 1) (bc2 := 6) (c1 := 6) (c2 := 186) (as := [(4, 0), (1, 12000)]) (asC := [(4, 0), (1, 12000)]) (LN := [(0, (4, 0)), (1, (1, 10)), (3, (0, 1))]) (stN := []) (hsC := jpA_147) (ex := [(101, [], [0, 0, 0, 0, 0, 0])]) (v := (4, 16)) (st2 := [(4, 22)]) (hs2 := jpA_3652) (jA_218_1316 (d := 0)) (by rfl) (by rfl) (by decide +kernel) (by rfl) (by rfl) (by omega) (by omega) (by omega) (by omega) rfl (by decide +kernel) ?_
  refine jT_advK 8 (pcN := 34) (LN := [(4, (4, 22)), (0, (4, 0)), (1, (1, 10)), (3, (0, 1))]) (stN := [(1, 1), (4, 22), (4, 0)]) (hsN := jpA_3652) (c1 := 0) (s1 := 0) (c2 := 6) (s2 := 186) (by decide +kernel) ?_ (by omega) (by omega)
  refine jT_fA [0, 22, 1, 2, 3, 4, 5, 6, 7, 8, 9, 10, 11, 12, 13, 14, 15, 16, 17, 18, 19, 20, 21] 23 (y := 210) (pcN := 37) (dC := 5) (bc1 := 5) (bc2 := 180) (c1 := 1) (c2 := 6) (as := [(4, 0), (4, 22), (1, 1)]) (asC := [(4, 0), (4, 1), (1, 1)]) (LN := [(4, (4, 22)), (0, (4, 0)), (1, (1, 10)), (3, (0, 1))]) (stN := []) (hsC := jpA_987) (ex := jpA_683) (v := (1, 0)) (st2 := [(1, 0)]) (hs2 := jpA_4340) (jA_210_1290 (d := 0)) (by rfl) (by rfl) (by decide +kernel) (by rfl) (by rfl) (by omega) (by omega) (by omega) (by omega) rfl (by decide +kernel) ?_
  refine jT_advK 9 (pcN := 53) (LN := [(5, (1, 0)), (4, (4, 22)), (0, (4, 0)), (1, (1, 10)), (3, (0, 1))]) (stN := [(1, 0), (4, 22), (4, 0)]) (hsN := jpA_4340) (c1 := 0) (s1 := 0) (c2 := 1) (s2 := 6) (by decide +kernel) ?_ (by omega) (by omega)
  refine jT_fA [0, 22, 1, 2, 3, 4, 5, 6, 7, 8, 9, 10, 11, 12, 13, 14, 15] 28 (y := 212) (pcN := 56) (dC := 2) (bc1 := 1) (bc2 := 6) (c1 := 0) (c2 := 0) (as := [(4, 0), (4, 22), (1, 0)]) (asC := [(4, 0), (4, 1), (1, 0)]) (LN := [(5, (1, 0)), (4, (4, 22)), (0, (4, 0)), (1, (1, 10)), (3, (0, 1))]) (stN := []) (hsC := jpA_4335) (ex := [(101, [], [0, 0, 0, 0, 0, 0])]) (v := (0, 0)) (st2 := [(0, 0)]) (hs2 := jpA_4353) (jA_212_1288 (d := 0)) (by rfl) (by rfl) (by decide +kernel) (by rfl) (by rfl) (by omega) (by omega) (by omega) (by omega) rfl (by decide +kernel) ?_
  refine jT_advK 3 (pcN := 68) (LN := [(5, (1, 0)), (4, (4, 22)), (0, (4, 0)), (1, (1, 10)), (3, (0, 1))]) (stN := [(1, 0)]) (hsN := jpA_4353) (c1 := 0) (s1 := 0) (c2 := 0) (s2 := 0) (by decide +kernel) ?_ (by omega) (by omega)
  exact jT_ret rfl (by decide) (by show 22 ≤ 29; decide) (by omega) (by omega) ⟨rfl, rfl, rfl⟩
theorem jA_263_1323 {xs : List Int} {d : Nat} {x1 : Int} (h_x1 : 0 ≤ x1 ∧ x1 ≤ 7) : jT xs (d + 7) 263 22 0 [(0, (4, 0)), (1, (0, x1)), (2, (0, 1)), (3, (0, 1))] [] jpA_1695 7 192 (fun k v hsN => k = 0 ∧ v = (1, 0) ∧ hsN = jpA_1695 ++ jpA_4354) := by
  refine jT_xaload_n (v := (4, 0)) (pcN := 1) jI_263_0 rfl rfl rfl ?_
  refine jT_xiload_n (v := (0, x1)) (pcN := 2) jI_263_1 rfl rfl rfl ?_
  refine jT_fR [] 22 (y := 188) (pcN := 5) (dC := 1) (bc1 := 0) (bc2 := 0) (c1 := 7) (c2 := 192) (as := [(0, x1)]) (asC := [(0, x1)]) (LN := [(0, (4, 0)), (1, (0, x1)), (2, (0, 1)), (3, (0, 1))]) (stN := [(4, 0)]) (hsC := []) (v := (0, 1)) (st2 := [(0, 1), (4, 0)]) (jA_188_13 (d := 0) (by omega)) (by rfl) (by rfl) (by decide +kernel) (by rfl) (by rfl) (by omega) (by omega) (by omega) (by omega) rfl ?_
  refine jT_fR [0, 1, 2, 3, 4, 5, 6, 7, 8, 9, 10, 11, 12, 13, 14, 15] 22 (y := 190) (pcN := 8) (dC := 1) (bc1 := 0) (bc2 := 0) (c1 := 7) (c2 := 192) (as := [(4, 0), (0, 1)]) (asC := [(4, 0), (0, 1)]) (LN := [(0, (4, 0)), (1, (0, x1)), (2, (0, 1)), (3, (0, 1))]) (stN := []) (hsC := jpA_22) (v := (0, 0)) (st2 := [(0, 0)]) (jA_190_39 (d := 0)) (by rfl) (by rfl) (by decide +kernel) (by rfl) (by rfl) (by omega) (by omega) (by omega) (by omega) rfl ?_
  refine jT_xifF (t := 48) (pcN := 11) jI_263_8 rfl (by decide +kernel) rfl rfl ?_
  refine jT_xaload_n (v := (4, 0)) (pcN := 12) jI_263_11 rfl rfl rfl ?_
  refine jT_xiload_n (v := (0, 1)) (pcN := 13) jI_263_12 rfl rfl rfl ?_
  refine jT_xi2l (x := 1) (z := 1) (pcN := 14) jI_263_13 rfl (by decide +kernel) rfl ?_
  refine jT_xlconst (z := 0) (pcN := 15) jI_263_14 rfl rfl ?_
  refine jT_adv 1 (pcN := 18) (LN := [(0, (4, 0)), (1, (0, x1)), (2, (0, 1)), (3, (0, 1))]) (stN := [(1, 9), (1, 0), (1, 1), (4, 0)]) (hsN := jpA_1695) (c1 := 0) (s1 := 0) (c2 := 7) (s2 := 192) (by exact rfl) ?_ (by omega) (by omega)
  refine jT_fR [] 22 (y := 189) (pcN := 21) (dC := 0) (bc1 := 0) (bc2 := 0) (c1 := 7) (c2 := 192) (as := [(1, 1), (1, 0), (1, 9)]) (asC := [(1, 1), (1, 0), (1, 9)]) (LN := [(0, (4, 0)), (1, (0, x1)), (2, (0, 1)), (3, (0, 1))]) (stN := [(4, 0)]) (hsC := []) (v := (0, 1)) (st2 := [(0, 1), (4, 0)]) (jA_189_1314 (d := 0)) (by rfl) (by rfl) (by decide +kernel) (by rfl) (by rfl) (by omega) (by omega) (by omega) (by omega) rfl ?_
  refine jT_xifF (t := 40) (pcN := 24) jI_263_21 rfl (by decide +kernel) rfl rfl ?_
  refine jT_xiload_n (v := (0, 1)) (pcN := 25) jI_263_24 rfl rfl rfl ?_
  refine jT_xi2l (x := 1) (z := 1) (pcN := 26) jI_263_25 rfl (by decide +kernel) rfl ?_
  refine jT_xlconst (z := 0) (pcN := 27) jI_263_26 rfl rfl ?_
  refine jT_adv 1 (pcN := 30) (LN := [(0, (4, 0)), (1, (0, x1)), (2, (0, 1)), (3, (0, 1))]) (stN := [(1, 2), (1, 0), (1, 1), (4, 0)]) (hsN := jpA_1695) (c1 := 0) (s1 := 0) (c2 := 7) (s2 := 192) (by exact rfl) ?_ (by omega) (by omega)
  refine jT_fR [] 22 (y := 189) (pcN := 33) (dC := 0) (bc1 := 0) (bc2 := 0) (c1 := 7) (c2 := 192) (as := [(1, 1), (1, 0), (1, 2)]) (asC := [(1, 1), (1, 0), (1, 2)]) (LN := [(0, (4, 0)), (1, (0, x1)), (2, (0, 1)), (3, (0, 1))]) (stN := [(4, 0)]) (hsC := []) (v := (0, 1)) (st2 := [(0, 1), (4, 0)]) (jA_189_1298 (d := 0)) (by rfl) (by rfl) (by decide +kernel) (by rfl) (by rfl) (by omega) (by omega) (by omega) (by omega) rfl ?_
  refine jT_xifF (t := 40) (pcN := 36) jI_263_33 rfl (by decide +kernel) rfl rfl ?_
  refine jT_xiconst (k := 1) (pcN := 37) jI_263_36 rfl ?_
  refine jT_xgoto (pcN := 41) jI_263_37 rfl ?_
  refine jT_xiconst (k := 2) (pcN := 42) jI_263_41 rfl ?_
  refine jT_fR [0] 22 (y := 191) (pcN := 45) (dC := 0) (bc1 := 0) (bc2 := 0) (c1 := 7) (c2 := 192) (as := [(4, 0), (0, 1), (0, 2)]) (asC := [(4, 0), (0, 1), (0, 2)]) (LN := [(0, (4, 0)), (1, (0, x1)), (2, (0, 1)), (3, (0, 1))]) (stN := []) (hsC := [jgh]) (v := (0, 0)) (st2 := [(0, 0)]) (jA_191_49 (d := 0)) (by rfl) (by rfl) (by decide +kernel) (by rfl) (by rfl) (by omega) (by omega) (by omega) (by omega) rfl ?_
  refine jT_xifT (pcN := 50) jI_263_45 rfl (by decide +kernel) rfl ?_
  refine jT_xaload_n (v := (4, 0)) (pcN := 51) jI_263_50 rfl rfl rfl ?_
  refine jT_xiload_n (v := (0, x1)) (pcN := 52) jI_263_51 rfl rfl rfl ?_
  refine jT_fR [0, 1, 2, 3, 4, 5, 6, 7, 8, 9, 10, 11, 12, 13, 14, 15] 22 (y := 202) (pcN := 55) (dC := 1) (bc1 := 0) (bc2 := 0) (c1 := 7) (c2 := 192) (as := [(4, 0), (0, x1)]) (asC := [(4, 0), (0, x1)]) (LN := [(0, (4, 0)), (1, (0, x1)), (2, (0, 1)), (3, (0, 1))]) (stN := []) (hsC := jpA_130) (v := (9, 0)) (st2 := []) (jA_202_115 (d := 0) (by omega)) (by rfl) (by rfl) (by decide +kernel) (by rfl) (by rfl) (by omega) (by omega) (by omega) (by omega) rfl ?_
  refine jT_xaload_n (v := (4, 0)) (pcN := 56) jI_263_55 rfl rfl rfl ?_
  refine jT_xiload_n (v := (0, 1)) (pcN := 57) jI_263_56 rfl rfl rfl ?_
  refine jT_fR [] 22 (y := 264) (pcN := 60) (dC := 0) (bc1 := 0) (bc2 := 0) (c1 := 7) (c2 := 192) (as := [(0, 1)]) (asC := [(0, 1)]) (LN := [(0, (4, 0)), (1, (0, x1)), (2, (0, 1)), (3, (0, 1))]) (stN := [(4, 0)]) (hsC := []) (v := (1, 10)) (st2 := [(1, 10), (4, 0)]) (jA_264_1315 (d := 0)) (by rfl) (by rfl) (by decide +kernel) (by rfl) (by rfl) (by omega) (by omega) (by omega) (by omega) rfl ?_
  refine jT_xiload_n (v := (0, 1)) (pcN := 61) jI_263_60 rfl rfl rfl ?_
  refine jT_fA [0, 1, 2, 3, 4, 5, 6, 7, 8, 9, 10, 11, 12, 13, 14, 15, 16, 17, 18, 19, 20, 21] 22 (y := 265) (pcN := 64) (dC := 6) (bc1 := 7) (bc2 := 192) (c1 := 0) (c2 := 0) (as := [(4, 0), (1, 10), (0, 1)]) (asC := [(4, 0), (1, 10), (0, 1)]) (LN := [(0, (4, 0)), (1, (0, x1)), (2, (0, 1)), (3, (0, 1))]) (stN := []) (hsC := jpA_684) (ex := jpA_4354) (v := (1, 0)) (st2 := [(1, 0)]) (hs2 := jpA_4355) (jA_265_1322 (d := 0)) (by rfl) (by rfl) (by decide +kernel) (by rfl) (by rfl) (by omega) (by omega) (by omega) (by omega) rfl (by decide +kernel) ?_
  exact jT_ret rfl (by decide) (by show 22 ≤ 29; decide) (by omega) (by omega) ⟨rfl, rfl, rfl⟩
theorem jA_45_1324 {xs : List Int} {d : Nat} : jT xs (d + 1) 45 4 0 [(0, (4, 0)), (1, (4, 1)), (2, (1, 1)), (4, (1, 24000))] [] jpA_625 0 0 (fun k v hsN => k = 0 ∧ v = (1, 0) ∧ hsN = jpA_625 ++ []) := by
  refine jT_advK 10 (pcN := 17) (LN := [(0, (4, 0)), (1, (4, 1)), (2, (1, 1)), (4, (1, 24000))]) (stN := [(4, 1), (4, 0)]) (hsN := jpA_625) (c1 := 0) (s1 := 0) (c2 := 0) (s2 := 0) (by decide +kernel) ?_ (by omega) (by omega)
  refine jT_fR [0, 1] 4 (y := 39) (pcN := 20) (dC := 0) (bc1 := 0) (bc2 := 0) (c1 := 0) (c2 := 0) (as := [(4, 0), (4, 1)]) (asC := [(4, 0), (4, 1)]) (LN := [(0, (4, 0)), (1, (4, 1)), (2, (1, 1)), (4, (1, 24000))]) (stN := []) (hsC := [jgh, (101, [], [0, 0, 0, 0, 0, 0])]) (v := (1, 0)) (st2 := [(1, 0)]) (jA_39_144 (d := 0)) (by rfl) (by rfl) (by decide +kernel) (by rfl) (by rfl) (by omega) (by omega) (by omega) (by omega) rfl ?_
  refine jT_advK 11 (pcN := 36) (LN := [(6, (1, 0)), (0, (4, 0)), (1, (4, 1)), (2, (1, 1)), (4, (1, 24000))]) (stN := [(1, 1), (1, 0)]) (hsN := jpA_625) (c1 := 0) (s1 := 0) (c2 := 0) (s2 := 0) (by decide +kernel) ?_ (by omega) (by omega)
  refine jT_fR [] 4 (y := 373) (pcN := 39) (dC := 0) (bc1 := 0) (bc2 := 0) (c1 := 0) (c2 := 0) (as := [(1, 0), (1, 1)]) (asC := [(1, 0), (1, 1)]) (LN := [(6, (1, 0)), (0, (4, 0)), (1, (4, 1)), (2, (1, 1)), (4, (1, 24000))]) (stN := []) (hsC := []) (v := (1, 0)) (st2 := [(1, 0)]) (jA_373_145 (d := 0)) (by rfl) (by rfl) (by decide +kernel) (by rfl) (by rfl) (by omega) (by omega) (by omega) (by omega) rfl ?_
  exact jT_ret rfl (by decide) (by show 4 ≤ 4; decide) (by omega) (by omega) ⟨rfl, rfl, rfl⟩
theorem jA_44_1325 {xs : List Int} {d : Nat} : jT xs (d + 2) 44 5 0 [(0, (4, 0)), (1, (4, 1)), (2, (1, 24000))] [] jpA_626 0 0 (fun k v hsN => k = 0 ∧ v = (1, 0) ∧ hsN = jpA_626 ++ []) := by
  refine jT_advK 6 (pcN := 10) (LN := [(0, (4, 0)), (1, (4, 1)), (2, (1, 24000))]) (stN := [(1, 24000), (1, 1), (4, 4), (4, 0)]) (hsN := jpA_626) (c1 := 0) (s1 := 0) (c2 := 0) (s2 := 0) (by decide +kernel) ?_ (by omega) (by omega)
  refine jT_fR [0, 4, 2, 3] 5 (y := 45) (pcN := 13) (dC := 1) (bc1 := 0) (bc2 := 0) (c1 := 0) (c2 := 0) (as := [(4, 0), (4, 4), (1, 1), (1, 24000)]) (asC := [(4, 0), (4, 1), (1, 1), (1, 24000)]) (LN := [(0, (4, 0)), (1, (4, 1)), (2, (1, 24000))]) (stN := []) (hsC := jpA_625) (v := (1, 0)) (st2 := [(1, 0)]) (jA_45_1324 (d := 0)) (by rfl) (by rfl) (by decide +kernel) (by rfl) (by rfl) (by omega) (by omega) (by omega) (by omega) rfl ?_
  exact jT_ret rfl (by decide) (by show 5 ≤ 5; decide) (by omega) (by omega) ⟨rfl, rfl, rfl⟩
theorem jA_43_1326 {xs : List Int} {d : Nat} : jT xs (d + 3) 43 5 0 [(0, (4, 0)), (1, (4, 1)), (2, (1, 12000))] [] jpA_626 0 0 (fun k v hsN => k = 0 ∧ v = (1, 0) ∧ hsN = jpA_626 ++ []) := by
  refine jT_advK 5 (pcN := 7) (LN := [(0, (4, 0)), (1, (4, 1)), (2, (1, 12000))]) (stN := [(1, 24000), (4, 1), (4, 0)]) (hsN := jpA_626) (c1 := 0) (s1 := 0) (c2 := 0) (s2 := 0) (by decide +kernel) ?_ (by omega) (by omega)
  refine jT_fR [0, 1, 2, 3, 4] 5 (y := 44) (pcN := 10) (dC := 2) (bc1 := 0) (bc2 := 0) (c1 := 0) (c2 := 0) (as := [(4, 0), (4, 1), (1, 24000)]) (asC := [(4, 0), (4, 1), (1, 24000)]) (LN := [(0, (4, 0)), (1, (4, 1)), (2, (1, 12000))]) (stN := []) (hsC := jpA_626) (v := (1, 0)) (st2 := [(1, 0)]) (jA_44_1325 (d := 0)) (by rfl) (by rfl) (by decide +kernel) (by rfl) (by rfl) (by omega) (by omega) (by omega) (by omega) rfl ?_
  refine jT_advK 3 (pcN := 13) (LN := [(0, (4, 0)), (1, (4, 1)), (2, (1, 12000))]) (stN := [(0, 2), (1, 1)]) (hsN := jpA_626) (c1 := 0) (s1 := 0) (c2 := 0) (s2 := 0) (by decide +kernel) ?_ (by omega) (by omega)
  refine jT_fR [] 5 (y := 374) (pcN := 16) (dC := 1) (bc1 := 0) (bc2 := 0) (c1 := 0) (c2 := 0) (as := [(1, 1), (0, 2)]) (asC := [(1, 1), (0, 2)]) (LN := [(0, (4, 0)), (1, (4, 1)), (2, (1, 12000))]) (stN := []) (hsC := []) (v := (1, 0)) (st2 := [(1, 0)]) (jA_374_178 (d := 0)) (by rfl) (by rfl) (by decide +kernel) (by rfl) (by rfl) (by omega) (by omega) (by omega) (by omega) rfl ?_
  exact jT_ret rfl (by decide) (by show 5 ≤ 5; decide) (by omega) (by omega) ⟨rfl, rfl, rfl⟩
theorem jA_108_1327 {xs : List Int} {d : Nat} : jT xs (d + 4) 108 16 0 [(0, (4, 0)), (1, (4, 1)), (2, (0, 1)), (3, (0, 2))] [] jpA_4325 0 0 (fun k v hsN => k = 0 ∧ v = (1, 0) ∧ hsN = jpA_4325 ++ []) := by
  refine jT_advK 23 (pcN := 40) (LN := [(6, (0, 1)), (4, (1, 12000)), (0, (4, 0)), (1, (4, 1)), (2, (0, 1)), (3, (0, 2))]) (stN := [(1, 12000), (4, 1), (4, 2)]) (hsN := jpA_4325) (c1 := 0) (s1 := 0) (c2 := 0) (s2 := 0) (by decide +kernel) ?_ (by omega) (by omega)
  refine jT_fR [2, 1, 14, 15, 13] 16 (y := 43) (pcN := 43) (dC := 3) (bc1 := 0) (bc2 := 0) (c1 := 0) (c2 := 0) (as := [(4, 2), (4, 1), (1, 12000)]) (asC := [(4, 0), (4, 1), (1, 12000)]) (LN := [(6, (0, 1)), (4, (1, 12000)), (0, (4, 0)), (1, (4, 1)), (2, (0, 1)), (3, (0, 2))]) (stN := []) (hsC := jpA_626) (v := (1, 0)) (st2 := [(1, 0)]) (jA_43_1326 (d := 0)) (by rfl) (by rfl) (by decide +kernel) (by rfl) (by rfl) (by omega) (by omega) (by omega) (by omega) rfl ?_
  exact jT_ret rfl (by decide) (by show 16 ≤ 16; decide) (by omega) (by omega) ⟨rfl, rfl, rfl⟩
theorem jA_140_1328 {xs : List Int} {d : Nat} {x1 : Int} (h_x1 : 0 ≤ x1 ∧ x1 ≤ 7) : jT xs (d + 5) 140 21 0 [(0, (4, 0)), (1, (0, x1)), (2, (0, 1)), (3, (0, 2))] [] jpA_3958 0 0 (fun k v hsN => k = 0 ∧ v = (1, 0) ∧ hsN = jpA_3958 ++ []) := by
  refine jT_xaload_n (v := (4, 0)) (pcN := 1) jI_140_0 rfl rfl rfl ?_
  refine jT_xiload_n (v := (0, x1)) (pcN := 2) jI_140_1 rfl rfl rfl ?_
  refine jT_xbipush (k := 8) (pcN := 4) jI_140_2 (by decide) rfl ?_
  refine jT_fR [0] 21 (y := 115) (pcN := 7) (dC := 0) (bc1 := 0) (bc2 := 0) (c1 := 0) (c2 := 0) (as := [(4, 0), (0, x1), (0, 8)]) (asC := [(4, 0), (0, x1), (0, 8)]) (LN := [(0, (4, 0)), (1, (0, x1)), (2, (0, 1)), (3, (0, 2))]) (stN := []) (hsC := [jgh]) (v := (9, 0)) (st2 := []) (jA_115_9 (d := 0) (by omega)) (by rfl) (by rfl) (by decide +kernel) (by rfl) (by rfl) (by omega) (by omega) (by omega) (by omega) rfl ?_
  refine jT_xaload_n (v := (4, 0)) (pcN := 8) jI_140_7 rfl rfl rfl ?_
  refine jT_xiload_n (v := (0, 1)) (pcN := 9) jI_140_8 rfl rfl rfl ?_
  refine jT_xiconst (k := 0) (pcN := 10) jI_140_9 rfl ?_
  refine jT_xbipush (k := 9) (pcN := 12) jI_140_10 (by decide) rfl ?_
  refine jT_fR [0] 21 (y := 116) (pcN := 15) (dC := 0) (bc1 := 0) (bc2 := 0) (c1 := 0) (c2 := 0) (as := [(4, 0), (0, 1), (0, 0), (0, 9)]) (asC := [(4, 0), (0, 1), (0, 0), (0, 9)]) (LN := [(0, (4, 0)), (1, (0, x1)), (2, (0, 1)), (3, (0, 2))]) (stN := []) (hsC := [jgh]) (v := (9, 0)) (st2 := []) (jA_116_1308 (d := 0)) (by rfl) (by rfl) (by decide +kernel) (by rfl) (by rfl) (by omega) (by omega) (by omega) (by omega) rfl ?_
  refine jT_xaload_n (v := (4, 0)) (pcN := 16) jI_140_15 rfl rfl rfl ?_
  refine jT_xiload_n (v := (0, 2)) (pcN := 17) jI_140_16 rfl rfl rfl ?_
  refine jT_xiconst (k := 0) (pcN := 18) jI_140_17 rfl ?_
  refine jT_xiconst (k := 2) (pcN := 19) jI_140_18 rfl ?_
  refine jT_fR [0] 21 (y := 116) (pcN := 22) (dC := 0) (bc1 := 0) (bc2 := 0) (c1 := 0) (c2 := 0) (as := [(4, 0), (0, 2), (0, 0), (0, 2)]) (asC := [(4, 0), (0, 2), (0, 0), (0, 2)]) (LN := [(0, (4, 0)), (1, (0, x1)), (2, (0, 1)), (3, (0, 2))]) (stN := []) (hsC := [jgh]) (v := (9, 0)) (st2 := []) (jA_116_1301 (d := 0)) (by rfl) (by rfl) (by decide +kernel) (by rfl) (by rfl) (by omega) (by omega) (by omega) (by omega) rfl ?_
  refine jT_xaload_n (v := (4, 0)) (pcN := 23) jI_140_22 rfl rfl rfl ?_
  refine jT_xaload_n (v := (4, 0)) (pcN := 24) jI_140_23 rfl rfl rfl ?_
  refine jT_xgetf (a := 0) (t := 1) (ci := 13) (fi := 11) (c := jzA_5) (v := (4, 11)) (pcN := 27) jI_140_24 rfl rfl rfl rfl rfl rfl rfl ?_
  refine jT_xiload_n (v := (0, x1)) (pcN := 28) jI_140_27 rfl rfl rfl ?_
  refine jT_fR [11, 14, 15, 16, 17, 18, 19] 21 (y := 57) (pcN := 31) (dC := 0) (bc1 := 0) (bc2 := 0) (c1 := 0) (c2 := 0) (as := [(4, 11), (0, x1)]) (asC := [(4, 0), (0, x1)]) (LN := [(0, (4, 0)), (1, (0, x1)), (2, (0, 1)), (3, (0, 2))]) (stN := [(4, 0)]) (hsC := jpA_47) (v := (4, 6)) (st2 := [(4, 19), (4, 0)]) (jA_57_108 (d := 0) (by omega)) (by rfl) (by rfl) (by decide +kernel) (by rfl) (by rfl) (by omega) (by omega) (by omega) (by omega) rfl ?_
  refine jT_xiload_n (v := (0, 1)) (pcN := 32) jI_140_31 rfl rfl rfl ?_
  refine jT_xiload_n (v := (0, 2)) (pcN := 33) jI_140_32 rfl rfl rfl ?_
  refine jT_fR [0, 19, 1, 2, 3, 4, 5, 6, 7, 8, 9, 10, 11, 20, 12, 13] 21 (y := 108) (pcN := 36) (dC := 4) (bc1 := 0) (bc2 := 0) (c1 := 0) (c2 := 0) (as := [(4, 0), (4, 19), (0, 1), (0, 2)]) (asC := [(4, 0), (4, 1), (0, 1), (0, 2)]) (LN := [(0, (4, 0)), (1, (0, x1)), (2, (0, 1)), (3, (0, 2))]) (stN := []) (hsC := jpA_4325) (v := (1, 0)) (st2 := [(1, 0)]) (jA_108_1327 (d := 0)) (by rfl) (by rfl) (by decide +kernel) (by rfl) (by rfl) (by omega) (by omega) (by omega) (by omega) rfl ?_
  exact jT_ret rfl (by decide) (by show 21 ≤ 21; decide) (by omega) (by omega) ⟨rfl, rfl, rfl⟩
theorem jA_347_1329 {xs : List Int} {d : Nat} {x1 : Int} (h_x1 : 0 ≤ x1 ∧ x1 ≤ 7) : jT xs (d + 6) 347 22 0 [(0, (4, 0)), (1, (0, x1)), (2, (0, 1)), (3, (0, 2)), (4, (4, 1))] [] jpA_4038 0 0 (fun k v hsN => k = 0 ∧ v = (0, 0) ∧ hsN = jpA_4038 ++ []) := by
  refine jT_xaload (v := (4, 1)) (pcN := 2) jI_347_0 rfl rfl rfl ?_
  refine jT_xiconst (k := 0) (pcN := 3) jI_347_2 rfl ?_
  refine jT_xaload_n (v := (4, 0)) (pcN := 4) jI_347_3 rfl rfl rfl ?_
  refine jT_xiload_n (v := (0, x1)) (pcN := 5) jI_347_4 rfl rfl rfl ?_
  refine jT_xiload_n (v := (0, 1)) (pcN := 6) jI_347_5 rfl rfl rfl ?_
  refine jT_xiload_n (v := (0, 2)) (pcN := 7) jI_347_6 rfl rfl rfl ?_
  refine jT_fR [0, 2, 3, 4, 5, 6, 7, 8, 9, 10, 11, 12, 13, 14, 15, 16, 17, 18, 19, 20, 21] 22 (y := 140) (pcN := 10) (dC := 5) (bc1 := 0) (bc2 := 0) (c1 := 0) (c2 := 0) (as := [(4, 0), (0, x1), (0, 1), (0, 2)]) (asC := [(4, 0), (0, x1), (0, 1), (0, 2)]) (LN := [(0, (4, 0)), (1, (0, x1)), (2, (0, 1)), (3, (0, 2)), (4, (4, 1))]) (stN := [(0, 0), (4, 1)]) (hsC := jpA_3958) (v := (1, 0)) (st2 := [(1, 0), (0, 0), (4, 1)]) (jA_140_1328 (d := 0) (by omega)) (by rfl) (by rfl) (by decide +kernel) (by rfl) (by rfl) (by omega) (by omega) (by omega) (by omega) rfl ?_
  refine jT_adv 1 (pcN := 11) (LN := [(0, (4, 0)), (1, (0, x1)), (2, (0, 1)), (3, (0, 2)), (4, (4, 1))]) (stN := []) (hsN := jpA_4038) (c1 := 0) (s1 := 0) (c2 := 0) (s2 := 0) (by exact rfl) ?_ (by omega) (by omega)
  refine jT_xgoto (pcN := 22) jI_347_11 rfl ?_
  refine jT_xiconst (k := 0) (pcN := 23) jI_347_22 rfl ?_
  exact jT_ret rfl (by decide) (by show 22 ≤ 22; decide) (by omega) (by omega) ⟨rfl, rfl, rfl⟩
theorem jA_265_1330 {xs : List Int} {d : Nat} : jT xs (d + 7) 265 22 0 [(0, (4, 0)), (1, (1, 10)), (3, (0, 2))] [] jpA_684 10 360 (fun k v hsN => k = 0 ∧ v = (1, 0) ∧ hsN = jpA_684 ++ jpA_3654) := by
  refine jT_advK 4 (pcN := 6) (LN := [(0, (4, 0)), (1, (1, 10)), (3, (0, 2))]) (stN := [(1, 12000), (4, 0)]) (hsN := jpA_684) (c1 := 0) (s1 := 0) (c2 := 10) (s2 := 360) (by decide +kernel) ?_ (by omega) (by omega)
  refine jT_fA [0, 1, 2, 3, 4, 5, 6, 7, 8, 9, 10, 11, 12, 13, 14, 15] 22 (y := 218) (pcN := 9) (dC := 0) (bc1 := 1) (bc2 := 6) (c1 := 9) (c2 := 354) (as := [(4, 0), (1, 12000)]) (asC := [(4, 0), (1, 12000)]) (LN := [(0, (4, 0)), (1, (1, 10)), (3, (0, 2))]) (stN := []) (hsC := jpA_147) (ex := [(101, [], [0, 0, 0, 0, 0, 0])]) (v := (4, 16)) (st2 := [(4, 22)]) (hs2 := jpA_3652) (jA_218_1316 (d := 0)) (by rfl) (by rfl) (by decide +kernel) (by rfl) (by rfl) (by omega) (by omega) (by omega) (by omega) rfl (by decide +kernel) ?_
  refine jT_advK 8 (pcN := 23) (LN := [(4, (4, 22)), (0, (4, 0)), (1, (1, 10)), (3, (0, 2))]) (stN := [(1, 1), (4, 22), (4, 0)]) (hsN := jpA_3652) (c1 := 0) (s1 := 0) (c2 := 9) (s2 := 354) (by decide +kernel) ?_ (by omega) (by omega)
  refine jT_fA [0, 22, 1, 2, 3, 4, 5, 6, 7, 8, 9, 10, 11, 12, 13, 14, 15, 16, 17, 18, 19, 20, 21] 23 (y := 216) (pcN := 26) (dC := 6) (bc1 := 9) (bc2 := 354) (c1 := 0) (c2 := 0) (as := [(4, 0), (4, 22), (1, 1)]) (asC := [(4, 0), (4, 1), (1, 1)]) (LN := [(4, (4, 22)), (0, (4, 0)), (1, (1, 10)), (3, (0, 2))]) (stN := []) (hsC := jpA_987) (ex := jpA_839) (v := (1, 0)) (st2 := [(1, 0)]) (hs2 := jpA_3653) (jA_216_228 (d := 0)) (by rfl) (by rfl) (by decide +kernel) (by rfl) (by rfl) (by omega) (by omega) (by omega) (by omega) rfl (by decide +kernel) ?_
  exact jT_ret rfl (by decide) (by show 22 ≤ 32; decide) (by omega) (by omega) ⟨rfl, rfl, rfl⟩
theorem jA_263_1331 {xs : List Int} {d : Nat} {x1 : Int} (h_x1 : 0 ≤ x1 ∧ x1 ≤ 7) : jT xs (d + 8) 263 22 0 [(0, (4, 0)), (1, (0, x1)), (2, (0, 1)), (3, (0, 2))] [] jpA_1695 10 360 (fun k v hsN => k = 0 ∧ v = (1, 0) ∧ hsN = jpA_1695 ++ jpA_3654) := by
  refine jT_xaload_n (v := (4, 0)) (pcN := 1) jI_263_0 rfl rfl rfl ?_
  refine jT_xiload_n (v := (0, x1)) (pcN := 2) jI_263_1 rfl rfl rfl ?_
  refine jT_fR [] 22 (y := 188) (pcN := 5) (dC := 1) (bc1 := 0) (bc2 := 0) (c1 := 10) (c2 := 360) (as := [(0, x1)]) (asC := [(0, x1)]) (LN := [(0, (4, 0)), (1, (0, x1)), (2, (0, 1)), (3, (0, 2))]) (stN := [(4, 0)]) (hsC := []) (v := (0, 1)) (st2 := [(0, 1), (4, 0)]) (jA_188_13 (d := 0) (by omega)) (by rfl) (by rfl) (by decide +kernel) (by rfl) (by rfl) (by omega) (by omega) (by omega) (by omega) rfl ?_
  refine jT_fR [0, 1, 2, 3, 4, 5, 6, 7, 8, 9, 10, 11, 12, 13, 14, 15] 22 (y := 190) (pcN := 8) (dC := 1) (bc1 := 0) (bc2 := 0) (c1 := 10) (c2 := 360) (as := [(4, 0), (0, 1)]) (asC := [(4, 0), (0, 1)]) (LN := [(0, (4, 0)), (1, (0, x1)), (2, (0, 1)), (3, (0, 2))]) (stN := []) (hsC := jpA_22) (v := (0, 0)) (st2 := [(0, 0)]) (jA_190_39 (d := 0)) (by rfl) (by rfl) (by decide +kernel) (by rfl) (by rfl) (by omega) (by omega) (by omega) (by omega) rfl ?_
  refine jT_xifF (t := 48) (pcN := 11) jI_263_8 rfl (by decide +kernel) rfl rfl ?_
  refine jT_xaload_n (v := (4, 0)) (pcN := 12) jI_263_11 rfl rfl rfl ?_
  refine jT_xiload_n (v := (0, 1)) (pcN := 13) jI_263_12 rfl rfl rfl ?_
  refine jT_xi2l (x := 1) (z := 1) (pcN := 14) jI_263_13 rfl (by decide +kernel) rfl ?_
  refine jT_xlconst (z := 0) (pcN := 15) jI_263_14 rfl rfl ?_
  refine jT_adv 1 (pcN := 18) (LN := [(0, (4, 0)), (1, (0, x1)), (2, (0, 1)), (3, (0, 2))]) (stN := [(1, 9), (1, 0), (1, 1), (4, 0)]) (hsN := jpA_1695) (c1 := 0) (s1 := 0) (c2 := 10) (s2 := 360) (by exact rfl) ?_ (by omega) (by omega)
  refine jT_fR [] 22 (y := 189) (pcN := 21) (dC := 0) (bc1 := 0) (bc2 := 0) (c1 := 10) (c2 := 360) (as := [(1, 1), (1, 0), (1, 9)]) (asC := [(1, 1), (1, 0), (1, 9)]) (LN := [(0, (4, 0)), (1, (0, x1)), (2, (0, 1)), (3, (0, 2))]) (stN := [(4, 0)]) (hsC := []) (v := (0, 1)) (st2 := [(0, 1), (4, 0)]) (jA_189_1314 (d := 0)) (by rfl) (by rfl) (by decide +kernel) (by rfl) (by rfl) (by omega) (by omega) (by omega) (by omega) rfl ?_
  refine jT_xifF (t := 40) (pcN := 24) jI_263_21 rfl (by decide +kernel) rfl rfl ?_
  refine jT_xiload_n (v := (0, 2)) (pcN := 25) jI_263_24 rfl rfl rfl ?_
  refine jT_xi2l (x := 2) (z := 2) (pcN := 26) jI_263_25 rfl (by decide +kernel) rfl ?_
  refine jT_xlconst (z := 0) (pcN := 27) jI_263_26 rfl rfl ?_
  refine jT_adv 1 (pcN := 30) (LN := [(0, (4, 0)), (1, (0, x1)), (2, (0, 1)), (3, (0, 2))]) (stN := [(1, 2), (1, 0), (1, 2), (4, 0)]) (hsN := jpA_1695) (c1 := 0) (s1 := 0) (c2 := 10) (s2 := 360) (by exact rfl) ?_ (by omega) (by omega)
  refine jT_fR [] 22 (y := 189) (pcN := 33) (dC := 0) (bc1 := 0) (bc2 := 0) (c1 := 10) (c2 := 360) (as := [(1, 2), (1, 0), (1, 2)]) (asC := [(1, 2), (1, 0), (1, 2)]) (LN := [(0, (4, 0)), (1, (0, x1)), (2, (0, 1)), (3, (0, 2))]) (stN := [(4, 0)]) (hsC := []) (v := (0, 1)) (st2 := [(0, 1), (4, 0)]) (jA_189_1305 (d := 0)) (by rfl) (by rfl) (by decide +kernel) (by rfl) (by rfl) (by omega) (by omega) (by omega) (by omega) rfl ?_
  refine jT_xifF (t := 40) (pcN := 36) jI_263_33 rfl (by decide +kernel) rfl rfl ?_
  refine jT_xiconst (k := 1) (pcN := 37) jI_263_36 rfl ?_
  refine jT_xgoto (pcN := 41) jI_263_37 rfl ?_
  refine jT_xiconst (k := 2) (pcN := 42) jI_263_41 rfl ?_
  refine jT_fR [0] 22 (y := 191) (pcN := 45) (dC := 0) (bc1 := 0) (bc2 := 0) (c1 := 10) (c2 := 360) (as := [(4, 0), (0, 1), (0, 2)]) (asC := [(4, 0), (0, 1), (0, 2)]) (LN := [(0, (4, 0)), (1, (0, x1)), (2, (0, 1)), (3, (0, 2))]) (stN := []) (hsC := [jgh]) (v := (0, 0)) (st2 := [(0, 0)]) (jA_191_49 (d := 0)) (by rfl) (by rfl) (by decide +kernel) (by rfl) (by rfl) (by omega) (by omega) (by omega) (by omega) rfl ?_
  refine jT_xifT (pcN := 50) jI_263_45 rfl (by decide +kernel) rfl ?_
  refine jT_xaload_n (v := (4, 0)) (pcN := 51) jI_263_50 rfl rfl rfl ?_
  refine jT_xiload_n (v := (0, x1)) (pcN := 52) jI_263_51 rfl rfl rfl ?_
  refine jT_fR [0, 1, 2, 3, 4, 5, 6, 7, 8, 9, 10, 11, 12, 13, 14, 15] 22 (y := 202) (pcN := 55) (dC := 1) (bc1 := 0) (bc2 := 0) (c1 := 10) (c2 := 360) (as := [(4, 0), (0, x1)]) (asC := [(4, 0), (0, x1)]) (LN := [(0, (4, 0)), (1, (0, x1)), (2, (0, 1)), (3, (0, 2))]) (stN := []) (hsC := jpA_130) (v := (9, 0)) (st2 := []) (jA_202_115 (d := 0) (by omega)) (by rfl) (by rfl) (by decide +kernel) (by rfl) (by rfl) (by omega) (by omega) (by omega) (by omega) rfl ?_
  refine jT_xaload_n (v := (4, 0)) (pcN := 56) jI_263_55 rfl rfl rfl ?_
  refine jT_xiload_n (v := (0, 1)) (pcN := 57) jI_263_56 rfl rfl rfl ?_
  refine jT_fR [] 22 (y := 264) (pcN := 60) (dC := 0) (bc1 := 0) (bc2 := 0) (c1 := 10) (c2 := 360) (as := [(0, 1)]) (asC := [(0, 1)]) (LN := [(0, (4, 0)), (1, (0, x1)), (2, (0, 1)), (3, (0, 2))]) (stN := [(4, 0)]) (hsC := []) (v := (1, 10)) (st2 := [(1, 10), (4, 0)]) (jA_264_1315 (d := 0)) (by rfl) (by rfl) (by decide +kernel) (by rfl) (by rfl) (by omega) (by omega) (by omega) (by omega) rfl ?_
  refine jT_xiload_n (v := (0, 2)) (pcN := 61) jI_263_60 rfl rfl rfl ?_
  refine jT_fA [0, 1, 2, 3, 4, 5, 6, 7, 8, 9, 10, 11, 12, 13, 14, 15, 16, 17, 18, 19, 20, 21] 22 (y := 265) (pcN := 64) (dC := 7) (bc1 := 10) (bc2 := 360) (c1 := 0) (c2 := 0) (as := [(4, 0), (1, 10), (0, 2)]) (asC := [(4, 0), (1, 10), (0, 2)]) (LN := [(0, (4, 0)), (1, (0, x1)), (2, (0, 1)), (3, (0, 2))]) (stN := []) (hsC := jpA_684) (ex := jpA_3654) (v := (1, 0)) (st2 := [(1, 0)]) (hs2 := jpA_3655) (jA_265_1330 (d := 0)) (by rfl) (by rfl) (by decide +kernel) (by rfl) (by rfl) (by omega) (by omega) (by omega) (by omega) rfl (by decide +kernel) ?_
  exact jT_ret rfl (by decide) (by show 22 ≤ 32; decide) (by omega) (by omega) ⟨rfl, rfl, rfl⟩
theorem jA_116_1332 {xs : List Int} {d : Nat} {x2 : Int} (h_x2 : 2 ≤ x2 ∧ x2 ≤ 9) : jT xs d 116 1 0 [(0, (4, 0)), (1, (0, x2)), (2, (0, 0)), (3, (0, 9))] [] [jgh] 0 0 (fun k v hsN => k = 0 ∧ v = (9, 0) ∧ hsN = [jgh] ++ []) := by
  refine jT_xiload_n (v := (0, x2)) (pcN := 1) jI_116_0 rfl rfl rfl ?_
  refine jT_xiload_n (v := (0, 0)) (pcN := 2) jI_116_1 rfl rfl rfl ?_
  refine jT_icF (a := x2) (b := 0) (t := 10) (by rfl) (by rfl) (by rfl) (jw_idd (by omega) (by omega)) (jw_idd (by omega) (by omega)) (by simp only [jcP] <;> omega) ?_
  refine jT_xiload_n (v := (0, x2)) (pcN := 6) jI_116_5 rfl rfl rfl ?_
  refine jT_xiload_n (v := (0, 9)) (pcN := 7) jI_116_6 rfl rfl rfl ?_
  refine jT_icT (a := x2) (b := 9) (t := 21) (by rfl) (by rfl) (by rfl) (jw_idd (by omega) (by omega)) (jw_idd (by omega) (by omega)) (by simp only [jcP] <;> omega) ?_
  exact jT_ret rfl (by decide) (by show 1 ≤ 1; decide) (by omega) (by omega) ⟨rfl, rfl, rfl⟩
theorem jA_116_1333 {xs : List Int} {d : Nat} : jT xs d 116 1 0 [(0, (4, 0)), (1, (0, 2)), (2, (0, 0)), (3, (0, 9))] [] [jgh] 0 0 (fun k v hsN => k = 0 ∧ v = (9, 0) ∧ hsN = [jgh] ++ []) := by
  refine jT_advK 6 (pcN := 21) (LN := [(0, (4, 0)), (1, (0, 2)), (2, (0, 0)), (3, (0, 9))]) (stN := []) (hsN := [jgh]) (c1 := 0) (s1 := 0) (c2 := 0) (s2 := 0) (by decide +kernel) ?_ (by omega) (by omega)
  exact jT_ret rfl (by decide) (by show 1 ≤ 1; decide) (by omega) (by omega) ⟨rfl, rfl, rfl⟩
theorem jA_45_1334 {xs : List Int} {d : Nat} : jT xs (d + 1) 45 4 0 [(0, (4, 0)), (1, (4, 1)), (2, (1, 1)), (4, (1, 120000))] [] jpA_625 0 0 (fun k v hsN => k = 0 ∧ v = (1, 0) ∧ hsN = jpA_625 ++ []) := by
  refine jT_advK 10 (pcN := 17) (LN := [(0, (4, 0)), (1, (4, 1)), (2, (1, 1)), (4, (1, 120000))]) (stN := [(4, 1), (4, 0)]) (hsN := jpA_625) (c1 := 0) (s1 := 0) (c2 := 0) (s2 := 0) (by decide +kernel) ?_ (by omega) (by omega)
  refine jT_fR [0, 1] 4 (y := 39) (pcN := 20) (dC := 0) (bc1 := 0) (bc2 := 0) (c1 := 0) (c2 := 0) (as := [(4, 0), (4, 1)]) (asC := [(4, 0), (4, 1)]) (LN := [(0, (4, 0)), (1, (4, 1)), (2, (1, 1)), (4, (1, 120000))]) (stN := []) (hsC := [jgh, (101, [], [0, 0, 0, 0, 0, 0])]) (v := (1, 0)) (st2 := [(1, 0)]) (jA_39_144 (d := 0)) (by rfl) (by rfl) (by decide +kernel) (by rfl) (by rfl) (by omega) (by omega) (by omega) (by omega) rfl ?_
  refine jT_advK 11 (pcN := 36) (LN := [(6, (1, 0)), (0, (4, 0)), (1, (4, 1)), (2, (1, 1)), (4, (1, 120000))]) (stN := [(1, 1), (1, 0)]) (hsN := jpA_625) (c1 := 0) (s1 := 0) (c2 := 0) (s2 := 0) (by decide +kernel) ?_ (by omega) (by omega)
  refine jT_fR [] 4 (y := 373) (pcN := 39) (dC := 0) (bc1 := 0) (bc2 := 0) (c1 := 0) (c2 := 0) (as := [(1, 0), (1, 1)]) (asC := [(1, 0), (1, 1)]) (LN := [(6, (1, 0)), (0, (4, 0)), (1, (4, 1)), (2, (1, 1)), (4, (1, 120000))]) (stN := []) (hsC := []) (v := (1, 0)) (st2 := [(1, 0)]) (jA_373_145 (d := 0)) (by rfl) (by rfl) (by decide +kernel) (by rfl) (by rfl) (by omega) (by omega) (by omega) (by omega) rfl ?_
  exact jT_ret rfl (by decide) (by show 4 ≤ 4; decide) (by omega) (by omega) ⟨rfl, rfl, rfl⟩
theorem jA_44_1335 {xs : List Int} {d : Nat} : jT xs (d + 2) 44 5 0 [(0, (4, 0)), (1, (4, 1)), (2, (1, 120000))] [] jpA_626 0 0 (fun k v hsN => k = 0 ∧ v = (1, 0) ∧ hsN = jpA_626 ++ []) := by
  refine jT_advK 6 (pcN := 10) (LN := [(0, (4, 0)), (1, (4, 1)), (2, (1, 120000))]) (stN := [(1, 120000), (1, 1), (4, 4), (4, 0)]) (hsN := jpA_626) (c1 := 0) (s1 := 0) (c2 := 0) (s2 := 0) (by decide +kernel) ?_ (by omega) (by omega)
  refine jT_fR [0, 4, 2, 3] 5 (y := 45) (pcN := 13) (dC := 1) (bc1 := 0) (bc2 := 0) (c1 := 0) (c2 := 0) (as := [(4, 0), (4, 4), (1, 1), (1, 120000)]) (asC := [(4, 0), (4, 1), (1, 1), (1, 120000)]) (LN := [(0, (4, 0)), (1, (4, 1)), (2, (1, 120000))]) (stN := []) (hsC := jpA_625) (v := (1, 0)) (st2 := [(1, 0)]) (jA_45_1334 (d := 0)) (by rfl) (by rfl) (by decide +kernel) (by rfl) (by rfl) (by omega) (by omega) (by omega) (by omega) rfl ?_
  exact jT_ret rfl (by decide) (by show 5 ≤ 5; decide) (by omega) (by omega) ⟨rfl, rfl, rfl⟩
theorem jA_108_1336 {xs : List Int} {d : Nat} : jT xs (d + 3) 108 16 0 [(0, (4, 0)), (1, (4, 1)), (2, (0, 2)), (3, (0, 0))] [] jpA_4325 0 0 (fun k v hsN => k = 0 ∧ v = (1, 0) ∧ hsN = jpA_4325 ++ []) := by
  refine jT_advK 34 (pcN := 55) (LN := [(6, (0, 2)), (4, (1, 120000)), (0, (4, 0)), (1, (4, 1)), (2, (0, 2)), (3, (0, 0))]) (stN := [(1, 120000), (4, 1), (4, 2)]) (hsN := jpA_4325) (c1 := 0) (s1 := 0) (c2 := 0) (s2 := 0) (by decide +kernel) ?_ (by omega) (by omega)
  refine jT_fR [2, 1, 14, 15, 13] 16 (y := 44) (pcN := 58) (dC := 2) (bc1 := 0) (bc2 := 0) (c1 := 0) (c2 := 0) (as := [(4, 2), (4, 1), (1, 120000)]) (asC := [(4, 0), (4, 1), (1, 120000)]) (LN := [(6, (0, 2)), (4, (1, 120000)), (0, (4, 0)), (1, (4, 1)), (2, (0, 2)), (3, (0, 0))]) (stN := []) (hsC := jpA_626) (v := (1, 0)) (st2 := [(1, 0)]) (jA_44_1335 (d := 0)) (by rfl) (by rfl) (by decide +kernel) (by rfl) (by rfl) (by omega) (by omega) (by omega) (by omega) rfl ?_
  exact jT_ret rfl (by decide) (by show 16 ≤ 16; decide) (by omega) (by omega) ⟨rfl, rfl, rfl⟩
theorem jA_140_1337 {xs : List Int} {d : Nat} {x1 : Int} (h_x1 : 0 ≤ x1 ∧ x1 ≤ 7) : jT xs (d + 4) 140 21 0 [(0, (4, 0)), (1, (0, x1)), (2, (0, 2)), (3, (0, 0))] [] jpA_3958 0 0 (fun k v hsN => k = 0 ∧ v = (1, 0) ∧ hsN = jpA_3958 ++ []) := by
  refine jT_xaload_n (v := (4, 0)) (pcN := 1) jI_140_0 rfl rfl rfl ?_
  refine jT_xiload_n (v := (0, x1)) (pcN := 2) jI_140_1 rfl rfl rfl ?_
  refine jT_xbipush (k := 8) (pcN := 4) jI_140_2 (by decide) rfl ?_
  refine jT_fR [0] 21 (y := 115) (pcN := 7) (dC := 0) (bc1 := 0) (bc2 := 0) (c1 := 0) (c2 := 0) (as := [(4, 0), (0, x1), (0, 8)]) (asC := [(4, 0), (0, x1), (0, 8)]) (LN := [(0, (4, 0)), (1, (0, x1)), (2, (0, 2)), (3, (0, 0))]) (stN := []) (hsC := [jgh]) (v := (9, 0)) (st2 := []) (jA_115_9 (d := 0) (by omega)) (by rfl) (by rfl) (by decide +kernel) (by rfl) (by rfl) (by omega) (by omega) (by omega) (by omega) rfl ?_
  refine jT_xaload_n (v := (4, 0)) (pcN := 8) jI_140_7 rfl rfl rfl ?_
  refine jT_xiload_n (v := (0, 2)) (pcN := 9) jI_140_8 rfl rfl rfl ?_
  refine jT_xiconst (k := 0) (pcN := 10) jI_140_9 rfl ?_
  refine jT_xbipush (k := 9) (pcN := 12) jI_140_10 (by decide) rfl ?_
  refine jT_fR [0] 21 (y := 116) (pcN := 15) (dC := 0) (bc1 := 0) (bc2 := 0) (c1 := 0) (c2 := 0) (as := [(4, 0), (0, 2), (0, 0), (0, 9)]) (asC := [(4, 0), (0, 2), (0, 0), (0, 9)]) (LN := [(0, (4, 0)), (1, (0, x1)), (2, (0, 2)), (3, (0, 0))]) (stN := []) (hsC := [jgh]) (v := (9, 0)) (st2 := []) (jA_116_1333 (d := 0)) (by rfl) (by rfl) (by decide +kernel) (by rfl) (by rfl) (by omega) (by omega) (by omega) (by omega) rfl ?_
  refine jT_xaload_n (v := (4, 0)) (pcN := 16) jI_140_15 rfl rfl rfl ?_
  refine jT_xiload_n (v := (0, 0)) (pcN := 17) jI_140_16 rfl rfl rfl ?_
  refine jT_xiconst (k := 0) (pcN := 18) jI_140_17 rfl ?_
  refine jT_xiconst (k := 2) (pcN := 19) jI_140_18 rfl ?_
  refine jT_fR [0] 21 (y := 116) (pcN := 22) (dC := 0) (bc1 := 0) (bc2 := 0) (c1 := 0) (c2 := 0) (as := [(4, 0), (0, 0), (0, 0), (0, 2)]) (asC := [(4, 0), (0, 0), (0, 0), (0, 2)]) (LN := [(0, (4, 0)), (1, (0, x1)), (2, (0, 2)), (3, (0, 0))]) (stN := []) (hsC := [jgh]) (v := (9, 0)) (st2 := []) (jA_116_1279 (d := 0)) (by rfl) (by rfl) (by decide +kernel) (by rfl) (by rfl) (by omega) (by omega) (by omega) (by omega) rfl ?_
  refine jT_xaload_n (v := (4, 0)) (pcN := 23) jI_140_22 rfl rfl rfl ?_
  refine jT_xaload_n (v := (4, 0)) (pcN := 24) jI_140_23 rfl rfl rfl ?_
  refine jT_xgetf (a := 0) (t := 1) (ci := 13) (fi := 11) (c := jzA_5) (v := (4, 11)) (pcN := 27) jI_140_24 rfl rfl rfl rfl rfl rfl rfl ?_
  refine jT_xiload_n (v := (0, x1)) (pcN := 28) jI_140_27 rfl rfl rfl ?_
  refine jT_fR [11, 14, 15, 16, 17, 18, 19] 21 (y := 57) (pcN := 31) (dC := 0) (bc1 := 0) (bc2 := 0) (c1 := 0) (c2 := 0) (as := [(4, 11), (0, x1)]) (asC := [(4, 0), (0, x1)]) (LN := [(0, (4, 0)), (1, (0, x1)), (2, (0, 2)), (3, (0, 0))]) (stN := [(4, 0)]) (hsC := jpA_47) (v := (4, 6)) (st2 := [(4, 19), (4, 0)]) (jA_57_108 (d := 0) (by omega)) (by rfl) (by rfl) (by decide +kernel) (by rfl) (by rfl) (by omega) (by omega) (by omega) (by omega) rfl ?_
  refine jT_xiload_n (v := (0, 2)) (pcN := 32) jI_140_31 rfl rfl rfl ?_
  refine jT_xiload_n (v := (0, 0)) (pcN := 33) jI_140_32 rfl rfl rfl ?_
  refine jT_fR [0, 19, 1, 2, 3, 4, 5, 6, 7, 8, 9, 10, 11, 20, 12, 13] 21 (y := 108) (pcN := 36) (dC := 3) (bc1 := 0) (bc2 := 0) (c1 := 0) (c2 := 0) (as := [(4, 0), (4, 19), (0, 2), (0, 0)]) (asC := [(4, 0), (4, 1), (0, 2), (0, 0)]) (LN := [(0, (4, 0)), (1, (0, x1)), (2, (0, 2)), (3, (0, 0))]) (stN := []) (hsC := jpA_4325) (v := (1, 0)) (st2 := [(1, 0)]) (jA_108_1336 (d := 0)) (by rfl) (by rfl) (by decide +kernel) (by rfl) (by rfl) (by omega) (by omega) (by omega) (by omega) rfl ?_
  exact jT_ret rfl (by decide) (by show 21 ≤ 21; decide) (by omega) (by omega) ⟨rfl, rfl, rfl⟩
theorem jA_347_1338 {xs : List Int} {d : Nat} {x1 : Int} (h_x1 : 0 ≤ x1 ∧ x1 ≤ 7) : jT xs (d + 5) 347 22 0 [(0, (4, 0)), (1, (0, x1)), (2, (0, 2)), (3, (0, 0)), (4, (4, 1))] [] jpA_4038 0 0 (fun k v hsN => k = 0 ∧ v = (0, 0) ∧ hsN = jpA_4038 ++ []) := by
  refine jT_xaload (v := (4, 1)) (pcN := 2) jI_347_0 rfl rfl rfl ?_
  refine jT_xiconst (k := 0) (pcN := 3) jI_347_2 rfl ?_
  refine jT_xaload_n (v := (4, 0)) (pcN := 4) jI_347_3 rfl rfl rfl ?_
  refine jT_xiload_n (v := (0, x1)) (pcN := 5) jI_347_4 rfl rfl rfl ?_
  refine jT_xiload_n (v := (0, 2)) (pcN := 6) jI_347_5 rfl rfl rfl ?_
  refine jT_xiload_n (v := (0, 0)) (pcN := 7) jI_347_6 rfl rfl rfl ?_
  refine jT_fR [0, 2, 3, 4, 5, 6, 7, 8, 9, 10, 11, 12, 13, 14, 15, 16, 17, 18, 19, 20, 21] 22 (y := 140) (pcN := 10) (dC := 4) (bc1 := 0) (bc2 := 0) (c1 := 0) (c2 := 0) (as := [(4, 0), (0, x1), (0, 2), (0, 0)]) (asC := [(4, 0), (0, x1), (0, 2), (0, 0)]) (LN := [(0, (4, 0)), (1, (0, x1)), (2, (0, 2)), (3, (0, 0)), (4, (4, 1))]) (stN := [(0, 0), (4, 1)]) (hsC := jpA_3958) (v := (1, 0)) (st2 := [(1, 0), (0, 0), (4, 1)]) (jA_140_1337 (d := 0) (by omega)) (by rfl) (by rfl) (by decide +kernel) (by rfl) (by rfl) (by omega) (by omega) (by omega) (by omega) rfl ?_
  refine jT_adv 1 (pcN := 11) (LN := [(0, (4, 0)), (1, (0, x1)), (2, (0, 2)), (3, (0, 0)), (4, (4, 1))]) (stN := []) (hsN := jpA_4038) (c1 := 0) (s1 := 0) (c2 := 0) (s2 := 0) (by exact rfl) ?_ (by omega) (by omega)
  refine jT_xgoto (pcN := 22) jI_347_11 rfl ?_
  refine jT_xiconst (k := 0) (pcN := 23) jI_347_22 rfl ?_
  exact jT_ret rfl (by decide) (by show 22 ≤ 22; decide) (by omega) (by omega) ⟨rfl, rfl, rfl⟩
theorem jA_189_1339 {xs : List Int} {d : Nat} : jT xs d 189 0 0 [(0, (1, 2)), (2, (1, 0)), (4, (1, 9))] [] [] 0 0 (fun k v hsN => k = 0 ∧ v = (0, 1) ∧ hsN = [] ++ []) := by
  refine jT_advK 10 (pcN := 18) (LN := [(0, (1, 2)), (2, (1, 0)), (4, (1, 9))]) (stN := [(0, 1)]) (hsN := []) (c1 := 0) (s1 := 0) (c2 := 0) (s2 := 0) (by decide +kernel) ?_ (by omega) (by omega)
  exact jT_ret rfl (by decide) (by show 0 ≤ 0; decide) (by omega) (by omega) ⟨rfl, rfl, rfl⟩
theorem jA_264_1340 {xs : List Int} {d : Nat} : jT xs d 264 0 0 [(0, (0, 2))] [] [] 0 0 (fun k v hsN => k = 0 ∧ v = (1, 100) ∧ hsN = [] ++ []) := by
  refine jT_advK 26 (pcN := 22) (LN := [(3, (0, 2)), (1, (1, 100)), (0, (0, 2))]) (stN := [(1, 100)]) (hsN := []) (c1 := 0) (s1 := 0) (c2 := 0) (s2 := 0) (by decide +kernel) ?_ (by omega) (by omega)
  exact jT_ret rfl (by decide) (by show 0 ≤ 0; decide) (by omega) (by omega) ⟨rfl, rfl, rfl⟩
theorem jA_218_1341 {xs : List Int} {d : Nat} : jT xs d 218 16 0 [(0, (4, 0)), (1, (1, 120000))] [] jpA_147 1 6 (fun k v hsN => k = 0 ∧ v = (4, 16) ∧ hsN = jpA_147 ++ [(101, [], [0, 0, 0, 0, 0, 0])]) := by
  refine jT_advK 93 (pcN := 35) (LN := [(4, (0, 6)), (3, (4, 16)), (0, (4, 0)), (1, (1, 120000))]) (stN := [(4, 16)]) (hsN := jpA_984) (c1 := 1) (s1 := 6) (c2 := 0) (s2 := 0) (by decide +kernel) ?_ (by omega) (by omega)
  exact jT_ret rfl (by decide) (by show 16 ≤ 17; decide) (by omega) (by omega) ⟨rfl, rfl, rfl⟩
theorem jA_265_1342 {xs : List Int} {d : Nat} : jT xs (d + 6) 265 22 0 [(0, (4, 0)), (1, (1, 100)), (3, (0, 0))] [] jpA_684 6 186 (fun k v hsN => k = 0 ∧ v = (1, 0) ∧ hsN = jpA_684 ++ jpA_4341) := by
  refine jT_advK 4 (pcN := 6) (LN := [(0, (4, 0)), (1, (1, 100)), (3, (0, 0))]) (stN := [(1, 120000), (4, 0)]) (hsN := jpA_684) (c1 := 0) (s1 := 0) (c2 := 6) (s2 := 186) (by decide +kernel) ?_ (by omega) (by omega)
  refine jT_fA [0, 1, 2, 3, 4, 5, 6, 7, 8, 9, 10, 11, 12, 13, 14, 15] 22 (y := 218) (pcN := 9) (dC := 0) (bc1 := 1) (bc2 := 6) (c1 := 5) (c2 := 180) (as := [(4, 0), (1, 120000)]) (asC := [(4, 0), (1, 120000)]) (LN := [(0, (4, 0)), (1, (1, 100)), (3, (0, 0))]) (stN := []) (hsC := jpA_147) (ex := [(101, [], [0, 0, 0, 0, 0, 0])]) (v := (4, 16)) (st2 := [(4, 22)]) (hs2 := jpA_3652) (jA_218_1341 (d := 0)) (by rfl) (by rfl) (by decide +kernel) (by rfl) (by rfl) (by omega) (by omega) (by omega) (by omega) rfl (by decide +kernel) ?_
  refine jT_advK 8 (pcN := 34) (LN := [(4, (4, 22)), (0, (4, 0)), (1, (1, 100)), (3, (0, 0))]) (stN := [(1, 1), (4, 22), (4, 0)]) (hsN := jpA_3652) (c1 := 0) (s1 := 0) (c2 := 5) (s2 := 180) (by decide +kernel) ?_ (by omega) (by omega)
  refine jT_fA [0, 22, 1, 2, 3, 4, 5, 6, 7, 8, 9, 10, 11, 12, 13, 14, 15, 16, 17, 18, 19, 20, 21] 23 (y := 210) (pcN := 37) (dC := 5) (bc1 := 5) (bc2 := 180) (c1 := 0) (c2 := 0) (as := [(4, 0), (4, 22), (1, 1)]) (asC := [(4, 0), (4, 1), (1, 1)]) (LN := [(4, (4, 22)), (0, (4, 0)), (1, (1, 100)), (3, (0, 0))]) (stN := []) (hsC := jpA_987) (ex := jpA_683) (v := (1, 0)) (st2 := [(1, 0)]) (hs2 := jpA_4340) (jA_210_1290 (d := 0)) (by rfl) (by rfl) (by decide +kernel) (by rfl) (by rfl) (by omega) (by omega) (by omega) (by omega) rfl (by decide +kernel) ?_
  refine jT_advK 5 (pcN := 68) (LN := [(5, (1, 0)), (4, (4, 22)), (0, (4, 0)), (1, (1, 100)), (3, (0, 0))]) (stN := [(1, 0)]) (hsN := jpA_4340) (c1 := 0) (s1 := 0) (c2 := 0) (s2 := 0) (by decide +kernel) ?_ (by omega) (by omega)
  exact jT_ret rfl (by decide) (by show 22 ≤ 28; decide) (by omega) (by omega) ⟨rfl, rfl, rfl⟩
theorem jA_263_1343 {xs : List Int} {d : Nat} {x1 : Int} (h_x1 : 0 ≤ x1 ∧ x1 ≤ 7) : jT xs (d + 7) 263 22 0 [(0, (4, 0)), (1, (0, x1)), (2, (0, 2)), (3, (0, 0))] [] jpA_1695 6 186 (fun k v hsN => k = 0 ∧ v = (1, 0) ∧ hsN = jpA_1695 ++ jpA_4341) := by
  refine jT_xaload_n (v := (4, 0)) (pcN := 1) jI_263_0 rfl rfl rfl ?_
  refine jT_xiload_n (v := (0, x1)) (pcN := 2) jI_263_1 rfl rfl rfl ?_
  refine jT_fR [] 22 (y := 188) (pcN := 5) (dC := 1) (bc1 := 0) (bc2 := 0) (c1 := 6) (c2 := 186) (as := [(0, x1)]) (asC := [(0, x1)]) (LN := [(0, (4, 0)), (1, (0, x1)), (2, (0, 2)), (3, (0, 0))]) (stN := [(4, 0)]) (hsC := []) (v := (0, 1)) (st2 := [(0, 1), (4, 0)]) (jA_188_13 (d := 0) (by omega)) (by rfl) (by rfl) (by decide +kernel) (by rfl) (by rfl) (by omega) (by omega) (by omega) (by omega) rfl ?_
  refine jT_fR [0, 1, 2, 3, 4, 5, 6, 7, 8, 9, 10, 11, 12, 13, 14, 15] 22 (y := 190) (pcN := 8) (dC := 1) (bc1 := 0) (bc2 := 0) (c1 := 6) (c2 := 186) (as := [(4, 0), (0, 1)]) (asC := [(4, 0), (0, 1)]) (LN := [(0, (4, 0)), (1, (0, x1)), (2, (0, 2)), (3, (0, 0))]) (stN := []) (hsC := jpA_22) (v := (0, 0)) (st2 := [(0, 0)]) (jA_190_39 (d := 0)) (by rfl) (by rfl) (by decide +kernel) (by rfl) (by rfl) (by omega) (by omega) (by omega) (by omega) rfl ?_
  refine jT_xifF (t := 48) (pcN := 11) jI_263_8 rfl (by decide +kernel) rfl rfl ?_
  refine jT_xaload_n (v := (4, 0)) (pcN := 12) jI_263_11 rfl rfl rfl ?_
  refine jT_xiload_n (v := (0, 2)) (pcN := 13) jI_263_12 rfl rfl rfl ?_
  refine jT_xi2l (x := 2) (z := 2) (pcN := 14) jI_263_13 rfl (by decide +kernel) rfl ?_
  refine jT_xlconst (z := 0) (pcN := 15) jI_263_14 rfl rfl ?_
  refine jT_adv 1 (pcN := 18) (LN := [(0, (4, 0)), (1, (0, x1)), (2, (0, 2)), (3, (0, 0))]) (stN := [(1, 9), (1, 0), (1, 2), (4, 0)]) (hsN := jpA_1695) (c1 := 0) (s1 := 0) (c2 := 6) (s2 := 186) (by exact rfl) ?_ (by omega) (by omega)
  refine jT_fR [] 22 (y := 189) (pcN := 21) (dC := 0) (bc1 := 0) (bc2 := 0) (c1 := 6) (c2 := 186) (as := [(1, 2), (1, 0), (1, 9)]) (asC := [(1, 2), (1, 0), (1, 9)]) (LN := [(0, (4, 0)), (1, (0, x1)), (2, (0, 2)), (3, (0, 0))]) (stN := [(4, 0)]) (hsC := []) (v := (0, 1)) (st2 := [(0, 1), (4, 0)]) (jA_189_1339 (d := 0)) (by rfl) (by rfl) (by decide +kernel) (by rfl) (by rfl) (by omega) (by omega) (by omega) (by omega) rfl ?_
  refine jT_xifF (t := 40) (pcN := 24) jI_263_21 rfl (by decide +kernel) rfl rfl ?_
  refine jT_xiload_n (v := (0, 0)) (pcN := 25) jI_263_24 rfl rfl rfl ?_
  refine jT_xi2l (x := 0) (z := 0) (pcN := 26) jI_263_25 rfl (by decide +kernel) rfl ?_
  refine jT_xlconst (z := 0) (pcN := 27) jI_263_26 rfl rfl ?_
  refine jT_adv 1 (pcN := 30) (LN := [(0, (4, 0)), (1, (0, x1)), (2, (0, 2)), (3, (0, 0))]) (stN := [(1, 2), (1, 0), (1, 0), (4, 0)]) (hsN := jpA_1695) (c1 := 0) (s1 := 0) (c2 := 6) (s2 := 186) (by exact rfl) ?_ (by omega) (by omega)
  refine jT_fR [] 22 (y := 189) (pcN := 33) (dC := 0) (bc1 := 0) (bc2 := 0) (c1 := 6) (c2 := 186) (as := [(1, 0), (1, 0), (1, 2)]) (asC := [(1, 0), (1, 0), (1, 2)]) (LN := [(0, (4, 0)), (1, (0, x1)), (2, (0, 2)), (3, (0, 0))]) (stN := [(4, 0)]) (hsC := []) (v := (0, 1)) (st2 := [(0, 1), (4, 0)]) (jA_189_1286 (d := 0)) (by rfl) (by rfl) (by decide +kernel) (by rfl) (by rfl) (by omega) (by omega) (by omega) (by omega) rfl ?_
  refine jT_xifF (t := 40) (pcN := 36) jI_263_33 rfl (by decide +kernel) rfl rfl ?_
  refine jT_xiconst (k := 1) (pcN := 37) jI_263_36 rfl ?_
  refine jT_xgoto (pcN := 41) jI_263_37 rfl ?_
  refine jT_xiconst (k := 2) (pcN := 42) jI_263_41 rfl ?_
  refine jT_fR [0] 22 (y := 191) (pcN := 45) (dC := 0) (bc1 := 0) (bc2 := 0) (c1 := 6) (c2 := 186) (as := [(4, 0), (0, 1), (0, 2)]) (asC := [(4, 0), (0, 1), (0, 2)]) (LN := [(0, (4, 0)), (1, (0, x1)), (2, (0, 2)), (3, (0, 0))]) (stN := []) (hsC := [jgh]) (v := (0, 0)) (st2 := [(0, 0)]) (jA_191_49 (d := 0)) (by rfl) (by rfl) (by decide +kernel) (by rfl) (by rfl) (by omega) (by omega) (by omega) (by omega) rfl ?_
  refine jT_xifT (pcN := 50) jI_263_45 rfl (by decide +kernel) rfl ?_
  refine jT_xaload_n (v := (4, 0)) (pcN := 51) jI_263_50 rfl rfl rfl ?_
  refine jT_xiload_n (v := (0, x1)) (pcN := 52) jI_263_51 rfl rfl rfl ?_
  refine jT_fR [0, 1, 2, 3, 4, 5, 6, 7, 8, 9, 10, 11, 12, 13, 14, 15] 22 (y := 202) (pcN := 55) (dC := 1) (bc1 := 0) (bc2 := 0) (c1 := 6) (c2 := 186) (as := [(4, 0), (0, x1)]) (asC := [(4, 0), (0, x1)]) (LN := [(0, (4, 0)), (1, (0, x1)), (2, (0, 2)), (3, (0, 0))]) (stN := []) (hsC := jpA_130) (v := (9, 0)) (st2 := []) (jA_202_115 (d := 0) (by omega)) (by rfl) (by rfl) (by decide +kernel) (by rfl) (by rfl) (by omega) (by omega) (by omega) (by omega) rfl ?_
  refine jT_xaload_n (v := (4, 0)) (pcN := 56) jI_263_55 rfl rfl rfl ?_
  refine jT_xiload_n (v := (0, 2)) (pcN := 57) jI_263_56 rfl rfl rfl ?_
  refine jT_fR [] 22 (y := 264) (pcN := 60) (dC := 0) (bc1 := 0) (bc2 := 0) (c1 := 6) (c2 := 186) (as := [(0, 2)]) (asC := [(0, 2)]) (LN := [(0, (4, 0)), (1, (0, x1)), (2, (0, 2)), (3, (0, 0))]) (stN := [(4, 0)]) (hsC := []) (v := (1, 100)) (st2 := [(1, 100), (4, 0)]) (jA_264_1340 (d := 0)) (by rfl) (by rfl) (by decide +kernel) (by rfl) (by rfl) (by omega) (by omega) (by omega) (by omega) rfl ?_
  refine jT_xiload_n (v := (0, 0)) (pcN := 61) jI_263_60 rfl rfl rfl ?_
  refine jT_fA [0, 1, 2, 3, 4, 5, 6, 7, 8, 9, 10, 11, 12, 13, 14, 15, 16, 17, 18, 19, 20, 21] 22 (y := 265) (pcN := 64) (dC := 6) (bc1 := 6) (bc2 := 186) (c1 := 0) (c2 := 0) (as := [(4, 0), (1, 100), (0, 0)]) (asC := [(4, 0), (1, 100), (0, 0)]) (LN := [(0, (4, 0)), (1, (0, x1)), (2, (0, 2)), (3, (0, 0))]) (stN := []) (hsC := jpA_684) (ex := jpA_4341) (v := (1, 0)) (st2 := [(1, 0)]) (hs2 := jpA_4349) (jA_265_1342 (d := 0)) (by rfl) (by rfl) (by decide +kernel) (by rfl) (by rfl) (by omega) (by omega) (by omega) (by omega) rfl (by decide +kernel) ?_
  exact jT_ret rfl (by decide) (by show 22 ≤ 28; decide) (by omega) (by omega) ⟨rfl, rfl, rfl⟩
theorem jA_108_1344 {xs : List Int} {d : Nat} : jT xs (d + 3) 108 16 0 [(0, (4, 0)), (1, (4, 1)), (2, (0, 2)), (3, (0, 1))] [] jpA_4325 2 8 (fun k v hsN => k = 0 ∧ v = (1, 0) ∧ hsN = jpA_4325 ++ [(101, [], [0, 0, 0, 0, 0, 0]), (4, [(4, 16), (1, 1)], [])]) := by
  refine jT_advK 36 (pcN := 69) (LN := [(6, (0, 2)), (4, (1, 120000)), (0, (4, 0)), (1, (4, 1)), (2, (0, 2)), (3, (0, 1))]) (stN := [(1, 0), (1, 1), (1, (-1)), (4, 1), (4, 2)]) (hsN := jpA_4325) (c1 := 0) (s1 := 0) (c2 := 2) (s2 := 8) (by decide +kernel) ?_ (by omega) (by omega)
  refine jT_fA [1, 13] 16 (y := 10) (pcN := 72) (dC := 2) (bc1 := 2) (bc2 := 8) (c1 := 0) (c2 := 0) (as := [(4, 1), (1, (-1)), (1, 1), (1, 0)]) (asC := [(4, 0), (1, (-1)), (1, 1), (1, 0)]) (LN := [(6, (0, 2)), (4, (1, 120000)), (0, (4, 0)), (1, (4, 1)), (2, (0, 2)), (3, (0, 1))]) (stN := [(4, 2)]) (hsC := [(4, [(4, 1), (1, 1)], []), (101, [], [0, 0, 0, 0, 0, 0])]) (ex := [(101, [], [0, 0, 0, 0, 0, 0]), (4, [(4, 2), (1, 1)], [])]) (v := (4, 3)) (st2 := [(4, 17), (4, 2)]) (hs2 := jpA_4350) (jA_10_1294 (d := 0)) (by rfl) (by rfl) (by decide +kernel) (by rfl) (by rfl) (by omega) (by omega) (by omega) (by omega) rfl (by decide +kernel) ?_
  refine jT_advK 1 (pcN := 74) (LN := [(6, (0, 2)), (4, (1, 120000)), (0, (4, 0)), (1, (4, 1)), (2, (0, 2)), (3, (0, 1))]) (stN := [(1, 120000), (4, 17), (4, 2)]) (hsN := jpA_4350) (c1 := 0) (s1 := 0) (c2 := 0) (s2 := 0) (by decide +kernel) ?_ (by omega) (by omega)
  refine jT_fR [2, 17, 14, 15, 16] 18 (y := 44) (pcN := 77) (dC := 2) (bc1 := 0) (bc2 := 0) (c1 := 0) (c2 := 0) (as := [(4, 2), (4, 17), (1, 120000)]) (asC := [(4, 0), (4, 1), (1, 120000)]) (LN := [(6, (0, 2)), (4, (1, 120000)), (0, (4, 0)), (1, (4, 1)), (2, (0, 2)), (3, (0, 1))]) (stN := []) (hsC := jpA_626) (v := (1, 0)) (st2 := [(1, 0)]) (jA_44_1335 (d := 0)) (by rfl) (by rfl) (by decide +kernel) (by rfl) (by rfl) (by omega) (by omega) (by omega) (by omega) rfl ?_
  refine jT_advK 1 (pcN := 78) (LN := [(6, (0, 2)), (4, (1, 120000)), (0, (4, 0)), (1, (4, 1)), (2, (0, 2)), (3, (0, 1))]) (stN := [(1, 0)]) (hsN := jpA_4350) (c1 := 0) (s1 := 0) (c2 := 0) (s2 := 0) (by decide +kernel) ?_ (by omega) (by omega)
  exact jT_ret rfl (by decide) (by show 16 ≤ 18; decide) (by omega) (by omega) ⟨rfl, rfl, rfl⟩
theorem jA_140_1345 {xs : List Int} {d : Nat} {x1 : Int} (h_x1 : 0 ≤ x1 ∧ x1 ≤ 7) : jT xs (d + 4) 140 21 0 [(0, (4, 0)), (1, (0, x1)), (2, (0, 2)), (3, (0, 1))] [] jpA_3958 2 8 (fun k v hsN => k = 0 ∧ v = (1, 0) ∧ hsN = jpA_3958 ++ [(101, [], [0, 0, 0, 0, 0, 0]), (4, [(4, 21), (1, 1)], [])]) := by
  refine jT_xaload_n (v := (4, 0)) (pcN := 1) jI_140_0 rfl rfl rfl ?_
  refine jT_xiload_n (v := (0, x1)) (pcN := 2) jI_140_1 rfl rfl rfl ?_
  refine jT_xbipush (k := 8) (pcN := 4) jI_140_2 (by decide) rfl ?_
  refine jT_fR [0] 21 (y := 115) (pcN := 7) (dC := 0) (bc1 := 0) (bc2 := 0) (c1 := 2) (c2 := 8) (as := [(4, 0), (0, x1), (0, 8)]) (asC := [(4, 0), (0, x1), (0, 8)]) (LN := [(0, (4, 0)), (1, (0, x1)), (2, (0, 2)), (3, (0, 1))]) (stN := []) (hsC := [jgh]) (v := (9, 0)) (st2 := []) (jA_115_9 (d := 0) (by omega)) (by rfl) (by rfl) (by decide +kernel) (by rfl) (by rfl) (by omega) (by omega) (by omega) (by omega) rfl ?_
  refine jT_xaload_n (v := (4, 0)) (pcN := 8) jI_140_7 rfl rfl rfl ?_
  refine jT_xiload_n (v := (0, 2)) (pcN := 9) jI_140_8 rfl rfl rfl ?_
  refine jT_xiconst (k := 0) (pcN := 10) jI_140_9 rfl ?_
  refine jT_xbipush (k := 9) (pcN := 12) jI_140_10 (by decide) rfl ?_
  refine jT_fR [0] 21 (y := 116) (pcN := 15) (dC := 0) (bc1 := 0) (bc2 := 0) (c1 := 2) (c2 := 8) (as := [(4, 0), (0, 2), (0, 0), (0, 9)]) (asC := [(4, 0), (0, 2), (0, 0), (0, 9)]) (LN := [(0, (4, 0)), (1, (0, x1)), (2, (0, 2)), (3, (0, 1))]) (stN := []) (hsC := [jgh]) (v := (9, 0)) (st2 := []) (jA_116_1333 (d := 0)) (by rfl) (by rfl) (by decide +kernel) (by rfl) (by rfl) (by omega) (by omega) (by omega) (by omega) rfl ?_
  refine jT_xaload_n (v := (4, 0)) (pcN := 16) jI_140_15 rfl rfl rfl ?_
  refine jT_xiload_n (v := (0, 1)) (pcN := 17) jI_140_16 rfl rfl rfl ?_
  refine jT_xiconst (k := 0) (pcN := 18) jI_140_17 rfl ?_
  refine jT_xiconst (k := 2) (pcN := 19) jI_140_18 rfl ?_
  refine jT_fR [0] 21 (y := 116) (pcN := 22) (dC := 0) (bc1 := 0) (bc2 := 0) (c1 := 2) (c2 := 8) (as := [(4, 0), (0, 1), (0, 0), (0, 2)]) (asC := [(4, 0), (0, 1), (0, 0), (0, 2)]) (LN := [(0, (4, 0)), (1, (0, x1)), (2, (0, 2)), (3, (0, 1))]) (stN := []) (hsC := [jgh]) (v := (9, 0)) (st2 := []) (jA_116_1293 (d := 0)) (by rfl) (by rfl) (by decide +kernel) (by rfl) (by rfl) (by omega) (by omega) (by omega) (by omega) rfl ?_
  refine jT_xaload_n (v := (4, 0)) (pcN := 23) jI_140_22 rfl rfl rfl ?_
  refine jT_xaload_n (v := (4, 0)) (pcN := 24) jI_140_23 rfl rfl rfl ?_
  refine jT_xgetf (a := 0) (t := 1) (ci := 13) (fi := 11) (c := jzA_5) (v := (4, 11)) (pcN := 27) jI_140_24 rfl rfl rfl rfl rfl rfl rfl ?_
  refine jT_xiload_n (v := (0, x1)) (pcN := 28) jI_140_27 rfl rfl rfl ?_
  refine jT_fR [11, 14, 15, 16, 17, 18, 19] 21 (y := 57) (pcN := 31) (dC := 0) (bc1 := 0) (bc2 := 0) (c1 := 2) (c2 := 8) (as := [(4, 11), (0, x1)]) (asC := [(4, 0), (0, x1)]) (LN := [(0, (4, 0)), (1, (0, x1)), (2, (0, 2)), (3, (0, 1))]) (stN := [(4, 0)]) (hsC := jpA_47) (v := (4, 6)) (st2 := [(4, 19), (4, 0)]) (jA_57_108 (d := 0) (by omega)) (by rfl) (by rfl) (by decide +kernel) (by rfl) (by rfl) (by omega) (by omega) (by omega) (by omega) rfl ?_
  refine jT_xiload_n (v := (0, 2)) (pcN := 32) jI_140_31 rfl rfl rfl ?_
  refine jT_xiload_n (v := (0, 1)) (pcN := 33) jI_140_32 rfl rfl rfl ?_
  refine jT_fA [0, 19, 1, 2, 3, 4, 5, 6, 7, 8, 9, 10, 11, 20, 12, 13] 21 (y := 108) (pcN := 36) (dC := 3) (bc1 := 2) (bc2 := 8) (c1 := 0) (c2 := 0) (as := [(4, 0), (4, 19), (0, 2), (0, 1)]) (asC := [(4, 0), (4, 1), (0, 2), (0, 1)]) (LN := [(0, (4, 0)), (1, (0, x1)), (2, (0, 2)), (3, (0, 1))]) (stN := []) (hsC := jpA_4325) (ex := [(101, [], [0, 0, 0, 0, 0, 0]), (4, [(4, 16), (1, 1)], [])]) (v := (1, 0)) (st2 := [(1, 0)]) (hs2 := jpA_4351) (jA_108_1344 (d := 0)) (by rfl) (by rfl) (by decide +kernel) (by rfl) (by rfl) (by omega) (by omega) (by omega) (by omega) rfl (by decide +kernel) ?_
  exact jT_ret rfl (by decide) (by show 21 ≤ 23; decide) (by omega) (by omega) ⟨rfl, rfl, rfl⟩
theorem jA_347_1346 {xs : List Int} {d : Nat} {x1 : Int} (h_x1 : 0 ≤ x1 ∧ x1 ≤ 7) : jT xs (d + 5) 347 22 0 [(0, (4, 0)), (1, (0, x1)), (2, (0, 2)), (3, (0, 1)), (4, (4, 1))] [] jpA_4038 2 8 (fun k v hsN => k = 0 ∧ v = (0, 0) ∧ hsN = jpA_4038 ++ [(101, [], [0, 0, 0, 0, 0, 0]), (4, [(4, 22), (1, 1)], [])]) := by
  refine jT_xaload (v := (4, 1)) (pcN := 2) jI_347_0 rfl rfl rfl ?_
  refine jT_xiconst (k := 0) (pcN := 3) jI_347_2 rfl ?_
  refine jT_xaload_n (v := (4, 0)) (pcN := 4) jI_347_3 rfl rfl rfl ?_
  refine jT_xiload_n (v := (0, x1)) (pcN := 5) jI_347_4 rfl rfl rfl ?_
  refine jT_xiload_n (v := (0, 2)) (pcN := 6) jI_347_5 rfl rfl rfl ?_
  refine jT_xiload_n (v := (0, 1)) (pcN := 7) jI_347_6 rfl rfl rfl ?_
  refine jT_fA [0, 2, 3, 4, 5, 6, 7, 8, 9, 10, 11, 12, 13, 14, 15, 16, 17, 18, 19, 20, 21] 22 (y := 140) (pcN := 10) (dC := 4) (bc1 := 2) (bc2 := 8) (c1 := 0) (c2 := 0) (as := [(4, 0), (0, x1), (0, 2), (0, 1)]) (asC := [(4, 0), (0, x1), (0, 2), (0, 1)]) (LN := [(0, (4, 0)), (1, (0, x1)), (2, (0, 2)), (3, (0, 1)), (4, (4, 1))]) (stN := [(0, 0), (4, 1)]) (hsC := jpA_3958) (ex := [(101, [], [0, 0, 0, 0, 0, 0]), (4, [(4, 21), (1, 1)], [])]) (v := (1, 0)) (st2 := [(1, 0), (0, 0), (4, 1)]) (hs2 := jpA_4352) (jA_140_1345 (d := 0) (by omega)) (by rfl) (by rfl) (by decide +kernel) (by rfl) (by rfl) (by omega) (by omega) (by omega) (by omega) rfl (by decide +kernel) ?_
  refine jT_adv 1 (pcN := 11) (LN := [(0, (4, 0)), (1, (0, x1)), (2, (0, 2)), (3, (0, 1)), (4, (4, 1))]) (stN := []) (hsN := jpA_4352) (c1 := 0) (s1 := 0) (c2 := 0) (s2 := 0) (by exact rfl) ?_ (by omega) (by omega)
  refine jT_xgoto (pcN := 22) jI_347_11 rfl ?_
  refine jT_xiconst (k := 0) (pcN := 23) jI_347_22 rfl ?_
  exact jT_ret rfl (by decide) (by show 22 ≤ 24; decide) (by omega) (by omega) ⟨rfl, rfl, rfl⟩
theorem jA_265_1347 {xs : List Int} {d : Nat} : jT xs (d + 6) 265 22 0 [(0, (4, 0)), (1, (1, 100)), (3, (0, 1))] [] jpA_684 7 192 (fun k v hsN => k = 0 ∧ v = (1, 0) ∧ hsN = jpA_684 ++ jpA_4354) := by
  refine jT_advK 4 (pcN := 6) (LN := [(0, (4, 0)), (1, (1, 100)), (3, (0, 1))]) (stN := [(1, 120000), (4, 0)]) (hsN := jpA_684) (c1 := 0) (s1 := 0) (c2 := 7) (s2 := 192) (by decide +kernel) ?_ (by omega) (by omega)
  refine jT_fA [0, 1, 2, 3, 4, 5, 6, 7, 8, 9, 10, 11, 12, 13, 14, 15] 22 (y := 218) (pcN := 9) (dC := 0) (bc1 := 1) (bc2 := 6) (c1 := 6) (c2 := 186) (as := [(4, 0), (1, 120000)]) (asC := [(4, 0), (1, 120000)]) (LN := [(0, (4, 0)), (1, (1, 100)), (3, (0, 1))]) (stN := []) (hsC := jpA_147) (ex := [(101, [], [0, 0, 0, 0, 0, 0])]) (v := (4, 16)) (st2 := [(4, 22)]) (hs2 := jpA_3652) (jA_218_1341 (d := 0)) (by rfl) (by rfl) (by decide +kernel) (by rfl) (by rfl) (by omega) (by omega) (by omega) (by omega) rfl (by decide +kernel) ?_
  refine jT_advK 8 (pcN := 34) (LN := [(4, (4, 22)), (0, (4, 0)), (1, (1, 100)), (3, (0, 1))]) (stN := [(1, 1), (4, 22), (4, 0)]) (hsN := jpA_3652) (c1 := 0) (s1 := 0) (c2 := 6) (s2 := 186) (by decide +kernel) ?_ (by omega) (by omega)
  refine jT_fA [0, 22, 1, 2, 3, 4, 5, 6, 7, 8, 9, 10, 11, 12, 13, 14, 15, 16, 17, 18, 19, 20, 21] 23 (y := 210) (pcN := 37) (dC := 5) (bc1 := 5) (bc2 := 180) (c1 := 1) (c2 := 6) (as := [(4, 0), (4, 22), (1, 1)]) (asC := [(4, 0), (4, 1), (1, 1)]) (LN := [(4, (4, 22)), (0, (4, 0)), (1, (1, 100)), (3, (0, 1))]) (stN := []) (hsC := jpA_987) (ex := jpA_683) (v := (1, 0)) (st2 := [(1, 0)]) (hs2 := jpA_4340) (jA_210_1290 (d := 0)) (by rfl) (by rfl) (by decide +kernel) (by rfl) (by rfl) (by omega) (by omega) (by omega) (by omega) rfl (by decide +kernel) ?_
  refine jT_advK 9 (pcN := 53) (LN := [(5, (1, 0)), (4, (4, 22)), (0, (4, 0)), (1, (1, 100)), (3, (0, 1))]) (stN := [(1, 0), (4, 22), (4, 0)]) (hsN := jpA_4340) (c1 := 0) (s1 := 0) (c2 := 1) (s2 := 6) (by decide +kernel) ?_ (by omega) (by omega)
  refine jT_fA [0, 22, 1, 2, 3, 4, 5, 6, 7, 8, 9, 10, 11, 12, 13, 14, 15] 28 (y := 212) (pcN := 56) (dC := 2) (bc1 := 1) (bc2 := 6) (c1 := 0) (c2 := 0) (as := [(4, 0), (4, 22), (1, 0)]) (asC := [(4, 0), (4, 1), (1, 0)]) (LN := [(5, (1, 0)), (4, (4, 22)), (0, (4, 0)), (1, (1, 100)), (3, (0, 1))]) (stN := []) (hsC := jpA_4335) (ex := [(101, [], [0, 0, 0, 0, 0, 0])]) (v := (0, 0)) (st2 := [(0, 0)]) (hs2 := jpA_4353) (jA_212_1288 (d := 0)) (by rfl) (by rfl) (by decide +kernel) (by rfl) (by rfl) (by omega) (by omega) (by omega) (by omega) rfl (by decide +kernel) ?_
  refine jT_advK 3 (pcN := 68) (LN := [(5, (1, 0)), (4, (4, 22)), (0, (4, 0)), (1, (1, 100)), (3, (0, 1))]) (stN := [(1, 0)]) (hsN := jpA_4353) (c1 := 0) (s1 := 0) (c2 := 0) (s2 := 0) (by decide +kernel) ?_ (by omega) (by omega)
  exact jT_ret rfl (by decide) (by show 22 ≤ 29; decide) (by omega) (by omega) ⟨rfl, rfl, rfl⟩
theorem jA_263_1348 {xs : List Int} {d : Nat} {x1 : Int} (h_x1 : 0 ≤ x1 ∧ x1 ≤ 7) : jT xs (d + 7) 263 22 0 [(0, (4, 0)), (1, (0, x1)), (2, (0, 2)), (3, (0, 1))] [] jpA_1695 7 192 (fun k v hsN => k = 0 ∧ v = (1, 0) ∧ hsN = jpA_1695 ++ jpA_4354) := by
  refine jT_xaload_n (v := (4, 0)) (pcN := 1) jI_263_0 rfl rfl rfl ?_
  refine jT_xiload_n (v := (0, x1)) (pcN := 2) jI_263_1 rfl rfl rfl ?_
  refine jT_fR [] 22 (y := 188) (pcN := 5) (dC := 1) (bc1 := 0) (bc2 := 0) (c1 := 7) (c2 := 192) (as := [(0, x1)]) (asC := [(0, x1)]) (LN := [(0, (4, 0)), (1, (0, x1)), (2, (0, 2)), (3, (0, 1))]) (stN := [(4, 0)]) (hsC := []) (v := (0, 1)) (st2 := [(0, 1), (4, 0)]) (jA_188_13 (d := 0) (by omega)) (by rfl) (by rfl) (by decide +kernel) (by rfl) (by rfl) (by omega) (by omega) (by omega) (by omega) rfl ?_
  refine jT_fR [0, 1, 2, 3, 4, 5, 6, 7, 8, 9, 10, 11, 12, 13, 14, 15] 22 (y := 190) (pcN := 8) (dC := 1) (bc1 := 0) (bc2 := 0) (c1 := 7) (c2 := 192) (as := [(4, 0), (0, 1)]) (asC := [(4, 0), (0, 1)]) (LN := [(0, (4, 0)), (1, (0, x1)), (2, (0, 2)), (3, (0, 1))]) (stN := []) (hsC := jpA_22) (v := (0, 0)) (st2 := [(0, 0)]) (jA_190_39 (d := 0)) (by rfl) (by rfl) (by decide +kernel) (by rfl) (by rfl) (by omega) (by omega) (by omega) (by omega) rfl ?_
  refine jT_xifF (t := 48) (pcN := 11) jI_263_8 rfl (by decide +kernel) rfl rfl ?_
  refine jT_xaload_n (v := (4, 0)) (pcN := 12) jI_263_11 rfl rfl rfl ?_
  refine jT_xiload_n (v := (0, 2)) (pcN := 13) jI_263_12 rfl rfl rfl ?_
  refine jT_xi2l (x := 2) (z := 2) (pcN := 14) jI_263_13 rfl (by decide +kernel) rfl ?_
  refine jT_xlconst (z := 0) (pcN := 15) jI_263_14 rfl rfl ?_
  refine jT_adv 1 (pcN := 18) (LN := [(0, (4, 0)), (1, (0, x1)), (2, (0, 2)), (3, (0, 1))]) (stN := [(1, 9), (1, 0), (1, 2), (4, 0)]) (hsN := jpA_1695) (c1 := 0) (s1 := 0) (c2 := 7) (s2 := 192) (by exact rfl) ?_ (by omega) (by omega)
  refine jT_fR [] 22 (y := 189) (pcN := 21) (dC := 0) (bc1 := 0) (bc2 := 0) (c1 := 7) (c2 := 192) (as := [(1, 2), (1, 0), (1, 9)]) (asC := [(1, 2), (1, 0), (1, 9)]) (LN := [(0, (4, 0)), (1, (0, x1)), (2, (0, 2)), (3, (0, 1))]) (stN := [(4, 0)]) (hsC := []) (v := (0, 1)) (st2 := [(0, 1), (4, 0)]) (jA_189_1339 (d := 0)) (by rfl) (by rfl) (by decide +kernel) (by rfl) (by rfl) (by omega) (by omega) (by omega) (by omega) rfl ?_
  refine jT_xifF (t := 40) (pcN := 24) jI_263_21 rfl (by decide +kernel) rfl rfl ?_
  refine jT_xiload_n (v := (0, 1)) (pcN := 25) jI_263_24 rfl rfl rfl ?_
  refine jT_xi2l (x := 1) (z := 1) (pcN := 26) jI_263_25 rfl (by decide +kernel) rfl ?_
  refine jT_xlconst (z := 0) (pcN := 27) jI_263_26 rfl rfl ?_
  refine jT_adv 1 (pcN := 30) (LN := [(0, (4, 0)), (1, (0, x1)), (2, (0, 2)), (3, (0, 1))]) (stN := [(1, 2), (1, 0), (1, 1), (4, 0)]) (hsN := jpA_1695) (c1 := 0) (s1 := 0) (c2 := 7) (s2 := 192) (by exact rfl) ?_ (by omega) (by omega)
  refine jT_fR [] 22 (y := 189) (pcN := 33) (dC := 0) (bc1 := 0) (bc2 := 0) (c1 := 7) (c2 := 192) (as := [(1, 1), (1, 0), (1, 2)]) (asC := [(1, 1), (1, 0), (1, 2)]) (LN := [(0, (4, 0)), (1, (0, x1)), (2, (0, 2)), (3, (0, 1))]) (stN := [(4, 0)]) (hsC := []) (v := (0, 1)) (st2 := [(0, 1), (4, 0)]) (jA_189_1298 (d := 0)) (by rfl) (by rfl) (by decide +kernel) (by rfl) (by rfl) (by omega) (by omega) (by omega) (by omega) rfl ?_
  refine jT_xifF (t := 40) (pcN := 36) jI_263_33 rfl (by decide +kernel) rfl rfl ?_
  refine jT_xiconst (k := 1) (pcN := 37) jI_263_36 rfl ?_
  refine jT_xgoto (pcN := 41) jI_263_37 rfl ?_
  refine jT_xiconst (k := 2) (pcN := 42) jI_263_41 rfl ?_
  refine jT_fR [0] 22 (y := 191) (pcN := 45) (dC := 0) (bc1 := 0) (bc2 := 0) (c1 := 7) (c2 := 192) (as := [(4, 0), (0, 1), (0, 2)]) (asC := [(4, 0), (0, 1), (0, 2)]) (LN := [(0, (4, 0)), (1, (0, x1)), (2, (0, 2)), (3, (0, 1))]) (stN := []) (hsC := [jgh]) (v := (0, 0)) (st2 := [(0, 0)]) (jA_191_49 (d := 0)) (by rfl) (by rfl) (by decide +kernel) (by rfl) (by rfl) (by omega) (by omega) (by omega) (by omega) rfl ?_
  refine jT_xifT (pcN := 50) jI_263_45 rfl (by decide +kernel) rfl ?_
  refine jT_xaload_n (v := (4, 0)) (pcN := 51) jI_263_50 rfl rfl rfl ?_
  refine jT_xiload_n (v := (0, x1)) (pcN := 52) jI_263_51 rfl rfl rfl ?_
  refine jT_fR [0, 1, 2, 3, 4, 5, 6, 7, 8, 9, 10, 11, 12, 13, 14, 15] 22 (y := 202) (pcN := 55) (dC := 1) (bc1 := 0) (bc2 := 0) (c1 := 7) (c2 := 192) (as := [(4, 0), (0, x1)]) (asC := [(4, 0), (0, x1)]) (LN := [(0, (4, 0)), (1, (0, x1)), (2, (0, 2)), (3, (0, 1))]) (stN := []) (hsC := jpA_130) (v := (9, 0)) (st2 := []) (jA_202_115 (d := 0) (by omega)) (by rfl) (by rfl) (by decide +kernel) (by rfl) (by rfl) (by omega) (by omega) (by omega) (by omega) rfl ?_
  refine jT_xaload_n (v := (4, 0)) (pcN := 56) jI_263_55 rfl rfl rfl ?_
  refine jT_xiload_n (v := (0, 2)) (pcN := 57) jI_263_56 rfl rfl rfl ?_
  refine jT_fR [] 22 (y := 264) (pcN := 60) (dC := 0) (bc1 := 0) (bc2 := 0) (c1 := 7) (c2 := 192) (as := [(0, 2)]) (asC := [(0, 2)]) (LN := [(0, (4, 0)), (1, (0, x1)), (2, (0, 2)), (3, (0, 1))]) (stN := [(4, 0)]) (hsC := []) (v := (1, 100)) (st2 := [(1, 100), (4, 0)]) (jA_264_1340 (d := 0)) (by rfl) (by rfl) (by decide +kernel) (by rfl) (by rfl) (by omega) (by omega) (by omega) (by omega) rfl ?_
  refine jT_xiload_n (v := (0, 1)) (pcN := 61) jI_263_60 rfl rfl rfl ?_
  refine jT_fA [0, 1, 2, 3, 4, 5, 6, 7, 8, 9, 10, 11, 12, 13, 14, 15, 16, 17, 18, 19, 20, 21] 22 (y := 265) (pcN := 64) (dC := 6) (bc1 := 7) (bc2 := 192) (c1 := 0) (c2 := 0) (as := [(4, 0), (1, 100), (0, 1)]) (asC := [(4, 0), (1, 100), (0, 1)]) (LN := [(0, (4, 0)), (1, (0, x1)), (2, (0, 2)), (3, (0, 1))]) (stN := []) (hsC := jpA_684) (ex := jpA_4354) (v := (1, 0)) (st2 := [(1, 0)]) (hs2 := jpA_4355) (jA_265_1347 (d := 0)) (by rfl) (by rfl) (by decide +kernel) (by rfl) (by rfl) (by omega) (by omega) (by omega) (by omega) rfl (by decide +kernel) ?_
  exact jT_ret rfl (by decide) (by show 22 ≤ 29; decide) (by omega) (by omega) ⟨rfl, rfl, rfl⟩
theorem jA_45_1349 {xs : List Int} {d : Nat} : jT xs (d + 1) 45 4 0 [(0, (4, 0)), (1, (4, 1)), (2, (1, 1)), (4, (1, 240000))] [] jpA_625 0 0 (fun k v hsN => k = 0 ∧ v = (1, 0) ∧ hsN = jpA_625 ++ []) := by
  refine jT_advK 10 (pcN := 17) (LN := [(0, (4, 0)), (1, (4, 1)), (2, (1, 1)), (4, (1, 240000))]) (stN := [(4, 1), (4, 0)]) (hsN := jpA_625) (c1 := 0) (s1 := 0) (c2 := 0) (s2 := 0) (by decide +kernel) ?_ (by omega) (by omega)
  refine jT_fR [0, 1] 4 (y := 39) (pcN := 20) (dC := 0) (bc1 := 0) (bc2 := 0) (c1 := 0) (c2 := 0) (as := [(4, 0), (4, 1)]) (asC := [(4, 0), (4, 1)]) (LN := [(0, (4, 0)), (1, (4, 1)), (2, (1, 1)), (4, (1, 240000))]) (stN := []) (hsC := [jgh, (101, [], [0, 0, 0, 0, 0, 0])]) (v := (1, 0)) (st2 := [(1, 0)]) (jA_39_144 (d := 0)) (by rfl) (by rfl) (by decide +kernel) (by rfl) (by rfl) (by omega) (by omega) (by omega) (by omega) rfl ?_
  refine jT_advK 11 (pcN := 36) (LN := [(6, (1, 0)), (0, (4, 0)), (1, (4, 1)), (2, (1, 1)), (4, (1, 240000))]) (stN := [(1, 1), (1, 0)]) (hsN := jpA_625) (c1 := 0) (s1 := 0) (c2 := 0) (s2 := 0) (by decide +kernel) ?_ (by omega) (by omega)
  refine jT_fR [] 4 (y := 373) (pcN := 39) (dC := 0) (bc1 := 0) (bc2 := 0) (c1 := 0) (c2 := 0) (as := [(1, 0), (1, 1)]) (asC := [(1, 0), (1, 1)]) (LN := [(6, (1, 0)), (0, (4, 0)), (1, (4, 1)), (2, (1, 1)), (4, (1, 240000))]) (stN := []) (hsC := []) (v := (1, 0)) (st2 := [(1, 0)]) (jA_373_145 (d := 0)) (by rfl) (by rfl) (by decide +kernel) (by rfl) (by rfl) (by omega) (by omega) (by omega) (by omega) rfl ?_
  exact jT_ret rfl (by decide) (by show 4 ≤ 4; decide) (by omega) (by omega) ⟨rfl, rfl, rfl⟩
theorem jA_44_1350 {xs : List Int} {d : Nat} : jT xs (d + 2) 44 5 0 [(0, (4, 0)), (1, (4, 1)), (2, (1, 240000))] [] jpA_626 0 0 (fun k v hsN => k = 0 ∧ v = (1, 0) ∧ hsN = jpA_626 ++ []) := by
  refine jT_advK 6 (pcN := 10) (LN := [(0, (4, 0)), (1, (4, 1)), (2, (1, 240000))]) (stN := [(1, 240000), (1, 1), (4, 4), (4, 0)]) (hsN := jpA_626) (c1 := 0) (s1 := 0) (c2 := 0) (s2 := 0) (by decide +kernel) ?_ (by omega) (by omega)
  refine jT_fR [0, 4, 2, 3] 5 (y := 45) (pcN := 13) (dC := 1) (bc1 := 0) (bc2 := 0) (c1 := 0) (c2 := 0) (as := [(4, 0), (4, 4), (1, 1), (1, 240000)]) (asC := [(4, 0), (4, 1), (1, 1), (1, 240000)]) (LN := [(0, (4, 0)), (1, (4, 1)), (2, (1, 240000))]) (stN := []) (hsC := jpA_625) (v := (1, 0)) (st2 := [(1, 0)]) (jA_45_1349 (d := 0)) (by rfl) (by rfl) (by decide +kernel) (by rfl) (by rfl) (by omega) (by omega) (by omega) (by omega) rfl ?_
  exact jT_ret rfl (by decide) (by show 5 ≤ 5; decide) (by omega) (by omega) ⟨rfl, rfl, rfl⟩
theorem jA_43_1351 {xs : List Int} {d : Nat} : jT xs (d + 3) 43 5 0 [(0, (4, 0)), (1, (4, 1)), (2, (1, 120000))] [] jpA_626 0 0 (fun k v hsN => k = 0 ∧ v = (1, 0) ∧ hsN = jpA_626 ++ []) := by
  refine jT_advK 5 (pcN := 7) (LN := [(0, (4, 0)), (1, (4, 1)), (2, (1, 120000))]) (stN := [(1, 240000), (4, 1), (4, 0)]) (hsN := jpA_626) (c1 := 0) (s1 := 0) (c2 := 0) (s2 := 0) (by decide +kernel) ?_ (by omega) (by omega)
  refine jT_fR [0, 1, 2, 3, 4] 5 (y := 44) (pcN := 10) (dC := 2) (bc1 := 0) (bc2 := 0) (c1 := 0) (c2 := 0) (as := [(4, 0), (4, 1), (1, 240000)]) (asC := [(4, 0), (4, 1), (1, 240000)]) (LN := [(0, (4, 0)), (1, (4, 1)), (2, (1, 120000))]) (stN := []) (hsC := jpA_626) (v := (1, 0)) (st2 := [(1, 0)]) (jA_44_1350 (d := 0)) (by rfl) (by rfl) (by decide +kernel) (by rfl) (by rfl) (by omega) (by omega) (by omega) (by omega) rfl ?_
  refine jT_advK 3 (pcN := 13) (LN := [(0, (4, 0)), (1, (4, 1)), (2, (1, 120000))]) (stN := [(0, 2), (1, 1)]) (hsN := jpA_626) (c1 := 0) (s1 := 0) (c2 := 0) (s2 := 0) (by decide +kernel) ?_ (by omega) (by omega)
  refine jT_fR [] 5 (y := 374) (pcN := 16) (dC := 1) (bc1 := 0) (bc2 := 0) (c1 := 0) (c2 := 0) (as := [(1, 1), (0, 2)]) (asC := [(1, 1), (0, 2)]) (LN := [(0, (4, 0)), (1, (4, 1)), (2, (1, 120000))]) (stN := []) (hsC := []) (v := (1, 0)) (st2 := [(1, 0)]) (jA_374_178 (d := 0)) (by rfl) (by rfl) (by decide +kernel) (by rfl) (by rfl) (by omega) (by omega) (by omega) (by omega) rfl ?_
  exact jT_ret rfl (by decide) (by show 5 ≤ 5; decide) (by omega) (by omega) ⟨rfl, rfl, rfl⟩
theorem jA_108_1352 {xs : List Int} {d : Nat} : jT xs (d + 4) 108 16 0 [(0, (4, 0)), (1, (4, 1)), (2, (0, 2)), (3, (0, 2))] [] jpA_4325 0 0 (fun k v hsN => k = 0 ∧ v = (1, 0) ∧ hsN = jpA_4325 ++ []) := by
  refine jT_advK 32 (pcN := 40) (LN := [(6, (0, 2)), (4, (1, 120000)), (0, (4, 0)), (1, (4, 1)), (2, (0, 2)), (3, (0, 2))]) (stN := [(1, 120000), (4, 1), (4, 2)]) (hsN := jpA_4325) (c1 := 0) (s1 := 0) (c2 := 0) (s2 := 0) (by decide +kernel) ?_ (by omega) (by omega)
  refine jT_fR [2, 1, 14, 15, 13] 16 (y := 43) (pcN := 43) (dC := 3) (bc1 := 0) (bc2 := 0) (c1 := 0) (c2 := 0) (as := [(4, 2), (4, 1), (1, 120000)]) (asC := [(4, 0), (4, 1), (1, 120000)]) (LN := [(6, (0, 2)), (4, (1, 120000)), (0, (4, 0)), (1, (4, 1)), (2, (0, 2)), (3, (0, 2))]) (stN := []) (hsC := jpA_626) (v := (1, 0)) (st2 := [(1, 0)]) (jA_43_1351 (d := 0)) (by rfl) (by rfl) (by decide +kernel) (by rfl) (by rfl) (by omega) (by omega) (by omega) (by omega) rfl ?_
  exact jT_ret rfl (by decide) (by show 16 ≤ 16; decide) (by omega) (by omega) ⟨rfl, rfl, rfl⟩
theorem jA_140_1353 {xs : List Int} {d : Nat} {x1 : Int} (h_x1 : 0 ≤ x1 ∧ x1 ≤ 7) : jT xs (d + 5) 140 21 0 [(0, (4, 0)), (1, (0, x1)), (2, (0, 2)), (3, (0, 2))] [] jpA_3958 0 0 (fun k v hsN => k = 0 ∧ v = (1, 0) ∧ hsN = jpA_3958 ++ []) := by
  refine jT_xaload_n (v := (4, 0)) (pcN := 1) jI_140_0 rfl rfl rfl ?_
  refine jT_xiload_n (v := (0, x1)) (pcN := 2) jI_140_1 rfl rfl rfl ?_
  refine jT_xbipush (k := 8) (pcN := 4) jI_140_2 (by decide) rfl ?_
  refine jT_fR [0] 21 (y := 115) (pcN := 7) (dC := 0) (bc1 := 0) (bc2 := 0) (c1 := 0) (c2 := 0) (as := [(4, 0), (0, x1), (0, 8)]) (asC := [(4, 0), (0, x1), (0, 8)]) (LN := [(0, (4, 0)), (1, (0, x1)), (2, (0, 2)), (3, (0, 2))]) (stN := []) (hsC := [jgh]) (v := (9, 0)) (st2 := []) (jA_115_9 (d := 0) (by omega)) (by rfl) (by rfl) (by decide +kernel) (by rfl) (by rfl) (by omega) (by omega) (by omega) (by omega) rfl ?_
  refine jT_xaload_n (v := (4, 0)) (pcN := 8) jI_140_7 rfl rfl rfl ?_
  refine jT_xiload_n (v := (0, 2)) (pcN := 9) jI_140_8 rfl rfl rfl ?_
  refine jT_xiconst (k := 0) (pcN := 10) jI_140_9 rfl ?_
  refine jT_xbipush (k := 9) (pcN := 12) jI_140_10 (by decide) rfl ?_
  refine jT_fR [0] 21 (y := 116) (pcN := 15) (dC := 0) (bc1 := 0) (bc2 := 0) (c1 := 0) (c2 := 0) (as := [(4, 0), (0, 2), (0, 0), (0, 9)]) (asC := [(4, 0), (0, 2), (0, 0), (0, 9)]) (LN := [(0, (4, 0)), (1, (0, x1)), (2, (0, 2)), (3, (0, 2))]) (stN := []) (hsC := [jgh]) (v := (9, 0)) (st2 := []) (jA_116_1333 (d := 0)) (by rfl) (by rfl) (by decide +kernel) (by rfl) (by rfl) (by omega) (by omega) (by omega) (by omega) rfl ?_
  refine jT_xaload_n (v := (4, 0)) (pcN := 16) jI_140_15 rfl rfl rfl ?_
  refine jT_xiload_n (v := (0, 2)) (pcN := 17) jI_140_16 rfl rfl rfl ?_
  refine jT_xiconst (k := 0) (pcN := 18) jI_140_17 rfl ?_
  refine jT_xiconst (k := 2) (pcN := 19) jI_140_18 rfl ?_
  refine jT_fR [0] 21 (y := 116) (pcN := 22) (dC := 0) (bc1 := 0) (bc2 := 0) (c1 := 0) (c2 := 0) (as := [(4, 0), (0, 2), (0, 0), (0, 2)]) (asC := [(4, 0), (0, 2), (0, 0), (0, 2)]) (LN := [(0, (4, 0)), (1, (0, x1)), (2, (0, 2)), (3, (0, 2))]) (stN := []) (hsC := [jgh]) (v := (9, 0)) (st2 := []) (jA_116_1301 (d := 0)) (by rfl) (by rfl) (by decide +kernel) (by rfl) (by rfl) (by omega) (by omega) (by omega) (by omega) rfl ?_
  refine jT_xaload_n (v := (4, 0)) (pcN := 23) jI_140_22 rfl rfl rfl ?_
  refine jT_xaload_n (v := (4, 0)) (pcN := 24) jI_140_23 rfl rfl rfl ?_
  refine jT_xgetf (a := 0) (t := 1) (ci := 13) (fi := 11) (c := jzA_5) (v := (4, 11)) (pcN := 27) jI_140_24 rfl rfl rfl rfl rfl rfl rfl ?_
  refine jT_xiload_n (v := (0, x1)) (pcN := 28) jI_140_27 rfl rfl rfl ?_
  refine jT_fR [11, 14, 15, 16, 17, 18, 19] 21 (y := 57) (pcN := 31) (dC := 0) (bc1 := 0) (bc2 := 0) (c1 := 0) (c2 := 0) (as := [(4, 11), (0, x1)]) (asC := [(4, 0), (0, x1)]) (LN := [(0, (4, 0)), (1, (0, x1)), (2, (0, 2)), (3, (0, 2))]) (stN := [(4, 0)]) (hsC := jpA_47) (v := (4, 6)) (st2 := [(4, 19), (4, 0)]) (jA_57_108 (d := 0) (by omega)) (by rfl) (by rfl) (by decide +kernel) (by rfl) (by rfl) (by omega) (by omega) (by omega) (by omega) rfl ?_
  refine jT_xiload_n (v := (0, 2)) (pcN := 32) jI_140_31 rfl rfl rfl ?_
  refine jT_xiload_n (v := (0, 2)) (pcN := 33) jI_140_32 rfl rfl rfl ?_
  refine jT_fR [0, 19, 1, 2, 3, 4, 5, 6, 7, 8, 9, 10, 11, 20, 12, 13] 21 (y := 108) (pcN := 36) (dC := 4) (bc1 := 0) (bc2 := 0) (c1 := 0) (c2 := 0) (as := [(4, 0), (4, 19), (0, 2), (0, 2)]) (asC := [(4, 0), (4, 1), (0, 2), (0, 2)]) (LN := [(0, (4, 0)), (1, (0, x1)), (2, (0, 2)), (3, (0, 2))]) (stN := []) (hsC := jpA_4325) (v := (1, 0)) (st2 := [(1, 0)]) (jA_108_1352 (d := 0)) (by rfl) (by rfl) (by decide +kernel) (by rfl) (by rfl) (by omega) (by omega) (by omega) (by omega) rfl ?_
  exact jT_ret rfl (by decide) (by show 21 ≤ 21; decide) (by omega) (by omega) ⟨rfl, rfl, rfl⟩
theorem jA_347_1354 {xs : List Int} {d : Nat} {x1 : Int} (h_x1 : 0 ≤ x1 ∧ x1 ≤ 7) : jT xs (d + 6) 347 22 0 [(0, (4, 0)), (1, (0, x1)), (2, (0, 2)), (3, (0, 2)), (4, (4, 1))] [] jpA_4038 0 0 (fun k v hsN => k = 0 ∧ v = (0, 0) ∧ hsN = jpA_4038 ++ []) := by
  refine jT_xaload (v := (4, 1)) (pcN := 2) jI_347_0 rfl rfl rfl ?_
  refine jT_xiconst (k := 0) (pcN := 3) jI_347_2 rfl ?_
  refine jT_xaload_n (v := (4, 0)) (pcN := 4) jI_347_3 rfl rfl rfl ?_
  refine jT_xiload_n (v := (0, x1)) (pcN := 5) jI_347_4 rfl rfl rfl ?_
  refine jT_xiload_n (v := (0, 2)) (pcN := 6) jI_347_5 rfl rfl rfl ?_
  refine jT_xiload_n (v := (0, 2)) (pcN := 7) jI_347_6 rfl rfl rfl ?_
  refine jT_fR [0, 2, 3, 4, 5, 6, 7, 8, 9, 10, 11, 12, 13, 14, 15, 16, 17, 18, 19, 20, 21] 22 (y := 140) (pcN := 10) (dC := 5) (bc1 := 0) (bc2 := 0) (c1 := 0) (c2 := 0) (as := [(4, 0), (0, x1), (0, 2), (0, 2)]) (asC := [(4, 0), (0, x1), (0, 2), (0, 2)]) (LN := [(0, (4, 0)), (1, (0, x1)), (2, (0, 2)), (3, (0, 2)), (4, (4, 1))]) (stN := [(0, 0), (4, 1)]) (hsC := jpA_3958) (v := (1, 0)) (st2 := [(1, 0), (0, 0), (4, 1)]) (jA_140_1353 (d := 0) (by omega)) (by rfl) (by rfl) (by decide +kernel) (by rfl) (by rfl) (by omega) (by omega) (by omega) (by omega) rfl ?_
  refine jT_adv 1 (pcN := 11) (LN := [(0, (4, 0)), (1, (0, x1)), (2, (0, 2)), (3, (0, 2)), (4, (4, 1))]) (stN := []) (hsN := jpA_4038) (c1 := 0) (s1 := 0) (c2 := 0) (s2 := 0) (by exact rfl) ?_ (by omega) (by omega)
  refine jT_xgoto (pcN := 22) jI_347_11 rfl ?_
  refine jT_xiconst (k := 0) (pcN := 23) jI_347_22 rfl ?_
  exact jT_ret rfl (by decide) (by show 22 ≤ 22; decide) (by omega) (by omega) ⟨rfl, rfl, rfl⟩
theorem jA_265_1355 {xs : List Int} {d : Nat} : jT xs (d + 7) 265 22 0 [(0, (4, 0)), (1, (1, 100)), (3, (0, 2))] [] jpA_684 10 360 (fun k v hsN => k = 0 ∧ v = (1, 0) ∧ hsN = jpA_684 ++ jpA_3654) := by
  refine jT_advK 4 (pcN := 6) (LN := [(0, (4, 0)), (1, (1, 100)), (3, (0, 2))]) (stN := [(1, 120000), (4, 0)]) (hsN := jpA_684) (c1 := 0) (s1 := 0) (c2 := 10) (s2 := 360) (by decide +kernel) ?_ (by omega) (by omega)
  refine jT_fA [0, 1, 2, 3, 4, 5, 6, 7, 8, 9, 10, 11, 12, 13, 14, 15] 22 (y := 218) (pcN := 9) (dC := 0) (bc1 := 1) (bc2 := 6) (c1 := 9) (c2 := 354) (as := [(4, 0), (1, 120000)]) (asC := [(4, 0), (1, 120000)]) (LN := [(0, (4, 0)), (1, (1, 100)), (3, (0, 2))]) (stN := []) (hsC := jpA_147) (ex := [(101, [], [0, 0, 0, 0, 0, 0])]) (v := (4, 16)) (st2 := [(4, 22)]) (hs2 := jpA_3652) (jA_218_1341 (d := 0)) (by rfl) (by rfl) (by decide +kernel) (by rfl) (by rfl) (by omega) (by omega) (by omega) (by omega) rfl (by decide +kernel) ?_
  refine jT_advK 8 (pcN := 23) (LN := [(4, (4, 22)), (0, (4, 0)), (1, (1, 100)), (3, (0, 2))]) (stN := [(1, 1), (4, 22), (4, 0)]) (hsN := jpA_3652) (c1 := 0) (s1 := 0) (c2 := 9) (s2 := 354) (by decide +kernel) ?_ (by omega) (by omega)
  refine jT_fA [0, 22, 1, 2, 3, 4, 5, 6, 7, 8, 9, 10, 11, 12, 13, 14, 15, 16, 17, 18, 19, 20, 21] 23 (y := 216) (pcN := 26) (dC := 6) (bc1 := 9) (bc2 := 354) (c1 := 0) (c2 := 0) (as := [(4, 0), (4, 22), (1, 1)]) (asC := [(4, 0), (4, 1), (1, 1)]) (LN := [(4, (4, 22)), (0, (4, 0)), (1, (1, 100)), (3, (0, 2))]) (stN := []) (hsC := jpA_987) (ex := jpA_839) (v := (1, 0)) (st2 := [(1, 0)]) (hs2 := jpA_3653) (jA_216_228 (d := 0)) (by rfl) (by rfl) (by decide +kernel) (by rfl) (by rfl) (by omega) (by omega) (by omega) (by omega) rfl (by decide +kernel) ?_
  exact jT_ret rfl (by decide) (by show 22 ≤ 32; decide) (by omega) (by omega) ⟨rfl, rfl, rfl⟩
theorem jA_263_1356 {xs : List Int} {d : Nat} {x1 : Int} (h_x1 : 0 ≤ x1 ∧ x1 ≤ 7) : jT xs (d + 8) 263 22 0 [(0, (4, 0)), (1, (0, x1)), (2, (0, 2)), (3, (0, 2))] [] jpA_1695 10 360 (fun k v hsN => k = 0 ∧ v = (1, 0) ∧ hsN = jpA_1695 ++ jpA_3654) := by
  refine jT_xaload_n (v := (4, 0)) (pcN := 1) jI_263_0 rfl rfl rfl ?_
  refine jT_xiload_n (v := (0, x1)) (pcN := 2) jI_263_1 rfl rfl rfl ?_
  refine jT_fR [] 22 (y := 188) (pcN := 5) (dC := 1) (bc1 := 0) (bc2 := 0) (c1 := 10) (c2 := 360) (as := [(0, x1)]) (asC := [(0, x1)]) (LN := [(0, (4, 0)), (1, (0, x1)), (2, (0, 2)), (3, (0, 2))]) (stN := [(4, 0)]) (hsC := []) (v := (0, 1)) (st2 := [(0, 1), (4, 0)]) (jA_188_13 (d := 0) (by omega)) (by rfl) (by rfl) (by decide +kernel) (by rfl) (by rfl) (by omega) (by omega) (by omega) (by omega) rfl ?_
  refine jT_fR [0, 1, 2, 3, 4, 5, 6, 7, 8, 9, 10, 11, 12, 13, 14, 15] 22 (y := 190) (pcN := 8) (dC := 1) (bc1 := 0) (bc2 := 0) (c1 := 10) (c2 := 360) (as := [(4, 0), (0, 1)]) (asC := [(4, 0), (0, 1)]) (LN := [(0, (4, 0)), (1, (0, x1)), (2, (0, 2)), (3, (0, 2))]) (stN := []) (hsC := jpA_22) (v := (0, 0)) (st2 := [(0, 0)]) (jA_190_39 (d := 0)) (by rfl) (by rfl) (by decide +kernel) (by rfl) (by rfl) (by omega) (by omega) (by omega) (by omega) rfl ?_
  refine jT_xifF (t := 48) (pcN := 11) jI_263_8 rfl (by decide +kernel) rfl rfl ?_
  refine jT_xaload_n (v := (4, 0)) (pcN := 12) jI_263_11 rfl rfl rfl ?_
  refine jT_xiload_n (v := (0, 2)) (pcN := 13) jI_263_12 rfl rfl rfl ?_
  refine jT_xi2l (x := 2) (z := 2) (pcN := 14) jI_263_13 rfl (by decide +kernel) rfl ?_
  refine jT_xlconst (z := 0) (pcN := 15) jI_263_14 rfl rfl ?_
  refine jT_adv 1 (pcN := 18) (LN := [(0, (4, 0)), (1, (0, x1)), (2, (0, 2)), (3, (0, 2))]) (stN := [(1, 9), (1, 0), (1, 2), (4, 0)]) (hsN := jpA_1695) (c1 := 0) (s1 := 0) (c2 := 10) (s2 := 360) (by exact rfl) ?_ (by omega) (by omega)
  refine jT_fR [] 22 (y := 189) (pcN := 21) (dC := 0) (bc1 := 0) (bc2 := 0) (c1 := 10) (c2 := 360) (as := [(1, 2), (1, 0), (1, 9)]) (asC := [(1, 2), (1, 0), (1, 9)]) (LN := [(0, (4, 0)), (1, (0, x1)), (2, (0, 2)), (3, (0, 2))]) (stN := [(4, 0)]) (hsC := []) (v := (0, 1)) (st2 := [(0, 1), (4, 0)]) (jA_189_1339 (d := 0)) (by rfl) (by rfl) (by decide +kernel) (by rfl) (by rfl) (by omega) (by omega) (by omega) (by omega) rfl ?_
  refine jT_xifF (t := 40) (pcN := 24) jI_263_21 rfl (by decide +kernel) rfl rfl ?_
  refine jT_xiload_n (v := (0, 2)) (pcN := 25) jI_263_24 rfl rfl rfl ?_
  refine jT_xi2l (x := 2) (z := 2) (pcN := 26) jI_263_25 rfl (by decide +kernel) rfl ?_
  refine jT_xlconst (z := 0) (pcN := 27) jI_263_26 rfl rfl ?_
  refine jT_adv 1 (pcN := 30) (LN := [(0, (4, 0)), (1, (0, x1)), (2, (0, 2)), (3, (0, 2))]) (stN := [(1, 2), (1, 0), (1, 2), (4, 0)]) (hsN := jpA_1695) (c1 := 0) (s1 := 0) (c2 := 10) (s2 := 360) (by exact rfl) ?_ (by omega) (by omega)
  refine jT_fR [] 22 (y := 189) (pcN := 33) (dC := 0) (bc1 := 0) (bc2 := 0) (c1 := 10) (c2 := 360) (as := [(1, 2), (1, 0), (1, 2)]) (asC := [(1, 2), (1, 0), (1, 2)]) (LN := [(0, (4, 0)), (1, (0, x1)), (2, (0, 2)), (3, (0, 2))]) (stN := [(4, 0)]) (hsC := []) (v := (0, 1)) (st2 := [(0, 1), (4, 0)]) (jA_189_1305 (d := 0)) (by rfl) (by rfl) (by decide +kernel) (by rfl) (by rfl) (by omega) (by omega) (by omega) (by omega) rfl ?_
  refine jT_xifF (t := 40) (pcN := 36) jI_263_33 rfl (by decide +kernel) rfl rfl ?_
  refine jT_xiconst (k := 1) (pcN := 37) jI_263_36 rfl ?_
  refine jT_xgoto (pcN := 41) jI_263_37 rfl ?_
  refine jT_xiconst (k := 2) (pcN := 42) jI_263_41 rfl ?_
  refine jT_fR [0] 22 (y := 191) (pcN := 45) (dC := 0) (bc1 := 0) (bc2 := 0) (c1 := 10) (c2 := 360) (as := [(4, 0), (0, 1), (0, 2)]) (asC := [(4, 0), (0, 1), (0, 2)]) (LN := [(0, (4, 0)), (1, (0, x1)), (2, (0, 2)), (3, (0, 2))]) (stN := []) (hsC := [jgh]) (v := (0, 0)) (st2 := [(0, 0)]) (jA_191_49 (d := 0)) (by rfl) (by rfl) (by decide +kernel) (by rfl) (by rfl) (by omega) (by omega) (by omega) (by omega) rfl ?_
  refine jT_xifT (pcN := 50) jI_263_45 rfl (by decide +kernel) rfl ?_
  refine jT_xaload_n (v := (4, 0)) (pcN := 51) jI_263_50 rfl rfl rfl ?_
  refine jT_xiload_n (v := (0, x1)) (pcN := 52) jI_263_51 rfl rfl rfl ?_
  refine jT_fR [0, 1, 2, 3, 4, 5, 6, 7, 8, 9, 10, 11, 12, 13, 14, 15] 22 (y := 202) (pcN := 55) (dC := 1) (bc1 := 0) (bc2 := 0) (c1 := 10) (c2 := 360) (as := [(4, 0), (0, x1)]) (asC := [(4, 0), (0, x1)]) (LN := [(0, (4, 0)), (1, (0, x1)), (2, (0, 2)), (3, (0, 2))]) (stN := []) (hsC := jpA_130) (v := (9, 0)) (st2 := []) (jA_202_115 (d := 0) (by omega)) (by rfl) (by rfl) (by decide +kernel) (by rfl) (by rfl) (by omega) (by omega) (by omega) (by omega) rfl ?_
  refine jT_xaload_n (v := (4, 0)) (pcN := 56) jI_263_55 rfl rfl rfl ?_
  refine jT_xiload_n (v := (0, 2)) (pcN := 57) jI_263_56 rfl rfl rfl ?_
  refine jT_fR [] 22 (y := 264) (pcN := 60) (dC := 0) (bc1 := 0) (bc2 := 0) (c1 := 10) (c2 := 360) (as := [(0, 2)]) (asC := [(0, 2)]) (LN := [(0, (4, 0)), (1, (0, x1)), (2, (0, 2)), (3, (0, 2))]) (stN := [(4, 0)]) (hsC := []) (v := (1, 100)) (st2 := [(1, 100), (4, 0)]) (jA_264_1340 (d := 0)) (by rfl) (by rfl) (by decide +kernel) (by rfl) (by rfl) (by omega) (by omega) (by omega) (by omega) rfl ?_
  refine jT_xiload_n (v := (0, 2)) (pcN := 61) jI_263_60 rfl rfl rfl ?_
  refine jT_fA [0, 1, 2, 3, 4, 5, 6, 7, 8, 9, 10, 11, 12, 13, 14, 15, 16, 17, 18, 19, 20, 21] 22 (y := 265) (pcN := 64) (dC := 7) (bc1 := 10) (bc2 := 360) (c1 := 0) (c2 := 0) (as := [(4, 0), (1, 100), (0, 2)]) (asC := [(4, 0), (1, 100), (0, 2)]) (LN := [(0, (4, 0)), (1, (0, x1)), (2, (0, 2)), (3, (0, 2))]) (stN := []) (hsC := jpA_684) (ex := jpA_3654) (v := (1, 0)) (st2 := [(1, 0)]) (hs2 := jpA_3655) (jA_265_1355 (d := 0)) (by rfl) (by rfl) (by decide +kernel) (by rfl) (by rfl) (by omega) (by omega) (by omega) (by omega) rfl (by decide +kernel) ?_
  exact jT_ret rfl (by decide) (by show 22 ≤ 32; decide) (by omega) (by omega) ⟨rfl, rfl, rfl⟩
theorem jA_116_1357 {xs : List Int} {d : Nat} {x2 : Int} (h_x2 : 3 ≤ x2 ∧ x2 ≤ 9) : jT xs d 116 1 0 [(0, (4, 0)), (1, (0, x2)), (2, (0, 0)), (3, (0, 9))] [] [jgh] 0 0 (fun k v hsN => k = 0 ∧ v = (9, 0) ∧ hsN = [jgh] ++ []) := by
  refine jT_xiload_n (v := (0, x2)) (pcN := 1) jI_116_0 rfl rfl rfl ?_
  refine jT_xiload_n (v := (0, 0)) (pcN := 2) jI_116_1 rfl rfl rfl ?_
  refine jT_icF (a := x2) (b := 0) (t := 10) (by rfl) (by rfl) (by rfl) (jw_idd (by omega) (by omega)) (jw_idd (by omega) (by omega)) (by simp only [jcP] <;> omega) ?_
  refine jT_xiload_n (v := (0, x2)) (pcN := 6) jI_116_5 rfl rfl rfl ?_
  refine jT_xiload_n (v := (0, 9)) (pcN := 7) jI_116_6 rfl rfl rfl ?_
  refine jT_icT (a := x2) (b := 9) (t := 21) (by rfl) (by rfl) (by rfl) (jw_idd (by omega) (by omega)) (jw_idd (by omega) (by omega)) (by simp only [jcP] <;> omega) ?_
  exact jT_ret rfl (by decide) (by show 1 ≤ 1; decide) (by omega) (by omega) ⟨rfl, rfl, rfl⟩
theorem jA_116_1358 {xs : List Int} {d : Nat} : jT xs d 116 1 0 [(0, (4, 0)), (1, (0, 3)), (2, (0, 0)), (3, (0, 9))] [] [jgh] 0 0 (fun k v hsN => k = 0 ∧ v = (9, 0) ∧ hsN = [jgh] ++ []) := by
  refine jT_advK 6 (pcN := 21) (LN := [(0, (4, 0)), (1, (0, 3)), (2, (0, 0)), (3, (0, 9))]) (stN := []) (hsN := [jgh]) (c1 := 0) (s1 := 0) (c2 := 0) (s2 := 0) (by decide +kernel) ?_ (by omega) (by omega)
  exact jT_ret rfl (by decide) (by show 1 ≤ 1; decide) (by omega) (by omega) ⟨rfl, rfl, rfl⟩
theorem jA_45_1359 {xs : List Int} {d : Nat} : jT xs (d + 1) 45 4 0 [(0, (4, 0)), (1, (4, 1)), (2, (1, 1)), (4, (1, 1200000))] [] jpA_625 0 0 (fun k v hsN => k = 0 ∧ v = (1, 0) ∧ hsN = jpA_625 ++ []) := by
  refine jT_advK 10 (pcN := 17) (LN := [(0, (4, 0)), (1, (4, 1)), (2, (1, 1)), (4, (1, 1200000))]) (stN := [(4, 1), (4, 0)]) (hsN := jpA_625) (c1 := 0) (s1 := 0) (c2 := 0) (s2 := 0) (by decide +kernel) ?_ (by omega) (by omega)
  refine jT_fR [0, 1] 4 (y := 39) (pcN := 20) (dC := 0) (bc1 := 0) (bc2 := 0) (c1 := 0) (c2 := 0) (as := [(4, 0), (4, 1)]) (asC := [(4, 0), (4, 1)]) (LN := [(0, (4, 0)), (1, (4, 1)), (2, (1, 1)), (4, (1, 1200000))]) (stN := []) (hsC := [jgh, (101, [], [0, 0, 0, 0, 0, 0])]) (v := (1, 0)) (st2 := [(1, 0)]) (jA_39_144 (d := 0)) (by rfl) (by rfl) (by decide +kernel) (by rfl) (by rfl) (by omega) (by omega) (by omega) (by omega) rfl ?_
  refine jT_advK 11 (pcN := 36) (LN := [(6, (1, 0)), (0, (4, 0)), (1, (4, 1)), (2, (1, 1)), (4, (1, 1200000))]) (stN := [(1, 1), (1, 0)]) (hsN := jpA_625) (c1 := 0) (s1 := 0) (c2 := 0) (s2 := 0) (by decide +kernel) ?_ (by omega) (by omega)
  refine jT_fR [] 4 (y := 373) (pcN := 39) (dC := 0) (bc1 := 0) (bc2 := 0) (c1 := 0) (c2 := 0) (as := [(1, 0), (1, 1)]) (asC := [(1, 0), (1, 1)]) (LN := [(6, (1, 0)), (0, (4, 0)), (1, (4, 1)), (2, (1, 1)), (4, (1, 1200000))]) (stN := []) (hsC := []) (v := (1, 0)) (st2 := [(1, 0)]) (jA_373_145 (d := 0)) (by rfl) (by rfl) (by decide +kernel) (by rfl) (by rfl) (by omega) (by omega) (by omega) (by omega) rfl ?_
  exact jT_ret rfl (by decide) (by show 4 ≤ 4; decide) (by omega) (by omega) ⟨rfl, rfl, rfl⟩
theorem jA_44_1360 {xs : List Int} {d : Nat} : jT xs (d + 2) 44 5 0 [(0, (4, 0)), (1, (4, 1)), (2, (1, 1200000))] [] jpA_626 0 0 (fun k v hsN => k = 0 ∧ v = (1, 0) ∧ hsN = jpA_626 ++ []) := by
  refine jT_advK 6 (pcN := 10) (LN := [(0, (4, 0)), (1, (4, 1)), (2, (1, 1200000))]) (stN := [(1, 1200000), (1, 1), (4, 4), (4, 0)]) (hsN := jpA_626) (c1 := 0) (s1 := 0) (c2 := 0) (s2 := 0) (by decide +kernel) ?_ (by omega) (by omega)
  refine jT_fR [0, 4, 2, 3] 5 (y := 45) (pcN := 13) (dC := 1) (bc1 := 0) (bc2 := 0) (c1 := 0) (c2 := 0) (as := [(4, 0), (4, 4), (1, 1), (1, 1200000)]) (asC := [(4, 0), (4, 1), (1, 1), (1, 1200000)]) (LN := [(0, (4, 0)), (1, (4, 1)), (2, (1, 1200000))]) (stN := []) (hsC := jpA_625) (v := (1, 0)) (st2 := [(1, 0)]) (jA_45_1359 (d := 0)) (by rfl) (by rfl) (by decide +kernel) (by rfl) (by rfl) (by omega) (by omega) (by omega) (by omega) rfl ?_
  exact jT_ret rfl (by decide) (by show 5 ≤ 5; decide) (by omega) (by omega) ⟨rfl, rfl, rfl⟩
theorem jA_108_1361 {xs : List Int} {d : Nat} : jT xs (d + 3) 108 16 0 [(0, (4, 0)), (1, (4, 1)), (2, (0, 3)), (3, (0, 0))] [] jpA_4325 0 0 (fun k v hsN => k = 0 ∧ v = (1, 0) ∧ hsN = jpA_4325 ++ []) := by
  refine jT_advK 43 (pcN := 55) (LN := [(6, (0, 3)), (4, (1, 1200000)), (0, (4, 0)), (1, (4, 1)), (2, (0, 3)), (3, (0, 0))]) (stN := [(1, 1200000), (4, 1), (4, 2)]) (hsN := jpA_4325) (c1 := 0) (s1 := 0) (c2 := 0) (s2 := 0) (by decide +kernel) ?_ (by omega) (by omega)
  refine jT_fR [2, 1, 14, 15, 13] 16 (y := 44) (pcN := 58) (dC := 2) (bc1 := 0) (bc2 := 0) (c1 := 0) (c2 := 0) (as := [(4, 2), (4, 1), (1, 1200000)]) (asC := [(4, 0), (4, 1), (1, 1200000)]) (LN := [(6, (0, 3)), (4, (1, 1200000)), (0, (4, 0)), (1, (4, 1)), (2, (0, 3)), (3, (0, 0))]) (stN := []) (hsC := jpA_626) (v := (1, 0)) (st2 := [(1, 0)]) (jA_44_1360 (d := 0)) (by rfl) (by rfl) (by decide +kernel) (by rfl) (by rfl) (by omega) (by omega) (by omega) (by omega) rfl ?_
  exact jT_ret rfl (by decide) (by show 16 ≤ 16; decide) (by omega) (by omega) ⟨rfl, rfl, rfl⟩
theorem jA_140_1362 {xs : List Int} {d : Nat} {x1 : Int} (h_x1 : 0 ≤ x1 ∧ x1 ≤ 7) : jT xs (d + 4) 140 21 0 [(0, (4, 0)), (1, (0, x1)), (2, (0, 3)), (3, (0, 0))] [] jpA_3958 0 0 (fun k v hsN => k = 0 ∧ v = (1, 0) ∧ hsN = jpA_3958 ++ []) := by
  refine jT_xaload_n (v := (4, 0)) (pcN := 1) jI_140_0 rfl rfl rfl ?_
  refine jT_xiload_n (v := (0, x1)) (pcN := 2) jI_140_1 rfl rfl rfl ?_
  refine jT_xbipush (k := 8) (pcN := 4) jI_140_2 (by decide) rfl ?_
  refine jT_fR [0] 21 (y := 115) (pcN := 7) (dC := 0) (bc1 := 0) (bc2 := 0) (c1 := 0) (c2 := 0) (as := [(4, 0), (0, x1), (0, 8)]) (asC := [(4, 0), (0, x1), (0, 8)]) (LN := [(0, (4, 0)), (1, (0, x1)), (2, (0, 3)), (3, (0, 0))]) (stN := []) (hsC := [jgh]) (v := (9, 0)) (st2 := []) (jA_115_9 (d := 0) (by omega)) (by rfl) (by rfl) (by decide +kernel) (by rfl) (by rfl) (by omega) (by omega) (by omega) (by omega) rfl ?_
  refine jT_xaload_n (v := (4, 0)) (pcN := 8) jI_140_7 rfl rfl rfl ?_
  refine jT_xiload_n (v := (0, 3)) (pcN := 9) jI_140_8 rfl rfl rfl ?_
  refine jT_xiconst (k := 0) (pcN := 10) jI_140_9 rfl ?_
  refine jT_xbipush (k := 9) (pcN := 12) jI_140_10 (by decide) rfl ?_
  refine jT_fR [0] 21 (y := 116) (pcN := 15) (dC := 0) (bc1 := 0) (bc2 := 0) (c1 := 0) (c2 := 0) (as := [(4, 0), (0, 3), (0, 0), (0, 9)]) (asC := [(4, 0), (0, 3), (0, 0), (0, 9)]) (LN := [(0, (4, 0)), (1, (0, x1)), (2, (0, 3)), (3, (0, 0))]) (stN := []) (hsC := [jgh]) (v := (9, 0)) (st2 := []) (jA_116_1358 (d := 0)) (by rfl) (by rfl) (by decide +kernel) (by rfl) (by rfl) (by omega) (by omega) (by omega) (by omega) rfl ?_
  refine jT_xaload_n (v := (4, 0)) (pcN := 16) jI_140_15 rfl rfl rfl ?_
  refine jT_xiload_n (v := (0, 0)) (pcN := 17) jI_140_16 rfl rfl rfl ?_
  refine jT_xiconst (k := 0) (pcN := 18) jI_140_17 rfl ?_
  refine jT_xiconst (k := 2) (pcN := 19) jI_140_18 rfl ?_
  refine jT_fR [0] 21 (y := 116) (pcN := 22) (dC := 0) (bc1 := 0) (bc2 := 0) (c1 := 0) (c2 := 0) (as := [(4, 0), (0, 0), (0, 0), (0, 2)]) (asC := [(4, 0), (0, 0), (0, 0), (0, 2)]) (LN := [(0, (4, 0)), (1, (0, x1)), (2, (0, 3)), (3, (0, 0))]) (stN := []) (hsC := [jgh]) (v := (9, 0)) (st2 := []) (jA_116_1279 (d := 0)) (by rfl) (by rfl) (by decide +kernel) (by rfl) (by rfl) (by omega) (by omega) (by omega) (by omega) rfl ?_
  refine jT_xaload_n (v := (4, 0)) (pcN := 23) jI_140_22 rfl rfl rfl ?_
  refine jT_xaload_n (v := (4, 0)) (pcN := 24) jI_140_23 rfl rfl rfl ?_
  refine jT_xgetf (a := 0) (t := 1) (ci := 13) (fi := 11) (c := jzA_5) (v := (4, 11)) (pcN := 27) jI_140_24 rfl rfl rfl rfl rfl rfl rfl ?_
  refine jT_xiload_n (v := (0, x1)) (pcN := 28) jI_140_27 rfl rfl rfl ?_
  refine jT_fR [11, 14, 15, 16, 17, 18, 19] 21 (y := 57) (pcN := 31) (dC := 0) (bc1 := 0) (bc2 := 0) (c1 := 0) (c2 := 0) (as := [(4, 11), (0, x1)]) (asC := [(4, 0), (0, x1)]) (LN := [(0, (4, 0)), (1, (0, x1)), (2, (0, 3)), (3, (0, 0))]) (stN := [(4, 0)]) (hsC := jpA_47) (v := (4, 6)) (st2 := [(4, 19), (4, 0)]) (jA_57_108 (d := 0) (by omega)) (by rfl) (by rfl) (by decide +kernel) (by rfl) (by rfl) (by omega) (by omega) (by omega) (by omega) rfl ?_
  refine jT_xiload_n (v := (0, 3)) (pcN := 32) jI_140_31 rfl rfl rfl ?_
  refine jT_xiload_n (v := (0, 0)) (pcN := 33) jI_140_32 rfl rfl rfl ?_
  refine jT_fR [0, 19, 1, 2, 3, 4, 5, 6, 7, 8, 9, 10, 11, 20, 12, 13] 21 (y := 108) (pcN := 36) (dC := 3) (bc1 := 0) (bc2 := 0) (c1 := 0) (c2 := 0) (as := [(4, 0), (4, 19), (0, 3), (0, 0)]) (asC := [(4, 0), (4, 1), (0, 3), (0, 0)]) (LN := [(0, (4, 0)), (1, (0, x1)), (2, (0, 3)), (3, (0, 0))]) (stN := []) (hsC := jpA_4325) (v := (1, 0)) (st2 := [(1, 0)]) (jA_108_1361 (d := 0)) (by rfl) (by rfl) (by decide +kernel) (by rfl) (by rfl) (by omega) (by omega) (by omega) (by omega) rfl ?_
  exact jT_ret rfl (by decide) (by show 21 ≤ 21; decide) (by omega) (by omega) ⟨rfl, rfl, rfl⟩
theorem jA_347_1363 {xs : List Int} {d : Nat} {x1 : Int} (h_x1 : 0 ≤ x1 ∧ x1 ≤ 7) : jT xs (d + 5) 347 22 0 [(0, (4, 0)), (1, (0, x1)), (2, (0, 3)), (3, (0, 0)), (4, (4, 1))] [] jpA_4038 0 0 (fun k v hsN => k = 0 ∧ v = (0, 0) ∧ hsN = jpA_4038 ++ []) := by
  refine jT_xaload (v := (4, 1)) (pcN := 2) jI_347_0 rfl rfl rfl ?_
  refine jT_xiconst (k := 0) (pcN := 3) jI_347_2 rfl ?_
  refine jT_xaload_n (v := (4, 0)) (pcN := 4) jI_347_3 rfl rfl rfl ?_
  refine jT_xiload_n (v := (0, x1)) (pcN := 5) jI_347_4 rfl rfl rfl ?_
  refine jT_xiload_n (v := (0, 3)) (pcN := 6) jI_347_5 rfl rfl rfl ?_
  refine jT_xiload_n (v := (0, 0)) (pcN := 7) jI_347_6 rfl rfl rfl ?_
  refine jT_fR [0, 2, 3, 4, 5, 6, 7, 8, 9, 10, 11, 12, 13, 14, 15, 16, 17, 18, 19, 20, 21] 22 (y := 140) (pcN := 10) (dC := 4) (bc1 := 0) (bc2 := 0) (c1 := 0) (c2 := 0) (as := [(4, 0), (0, x1), (0, 3), (0, 0)]) (asC := [(4, 0), (0, x1), (0, 3), (0, 0)]) (LN := [(0, (4, 0)), (1, (0, x1)), (2, (0, 3)), (3, (0, 0)), (4, (4, 1))]) (stN := [(0, 0), (4, 1)]) (hsC := jpA_3958) (v := (1, 0)) (st2 := [(1, 0), (0, 0), (4, 1)]) (jA_140_1362 (d := 0) (by omega)) (by rfl) (by rfl) (by decide +kernel) (by rfl) (by rfl) (by omega) (by omega) (by omega) (by omega) rfl ?_
  refine jT_adv 1 (pcN := 11) (LN := [(0, (4, 0)), (1, (0, x1)), (2, (0, 3)), (3, (0, 0)), (4, (4, 1))]) (stN := []) (hsN := jpA_4038) (c1 := 0) (s1 := 0) (c2 := 0) (s2 := 0) (by exact rfl) ?_ (by omega) (by omega)
  refine jT_xgoto (pcN := 22) jI_347_11 rfl ?_
  refine jT_xiconst (k := 0) (pcN := 23) jI_347_22 rfl ?_
  exact jT_ret rfl (by decide) (by show 22 ≤ 22; decide) (by omega) (by omega) ⟨rfl, rfl, rfl⟩
theorem jA_189_1364 {xs : List Int} {d : Nat} : jT xs d 189 0 0 [(0, (1, 3)), (2, (1, 0)), (4, (1, 9))] [] [] 0 0 (fun k v hsN => k = 0 ∧ v = (0, 1) ∧ hsN = [] ++ []) := by
  refine jT_advK 10 (pcN := 18) (LN := [(0, (1, 3)), (2, (1, 0)), (4, (1, 9))]) (stN := [(0, 1)]) (hsN := []) (c1 := 0) (s1 := 0) (c2 := 0) (s2 := 0) (by decide +kernel) ?_ (by omega) (by omega)
  exact jT_ret rfl (by decide) (by show 0 ≤ 0; decide) (by omega) (by omega) ⟨rfl, rfl, rfl⟩
theorem jA_264_1365 {xs : List Int} {d : Nat} : jT xs d 264 0 0 [(0, (0, 3))] [] [] 0 0 (fun k v hsN => k = 0 ∧ v = (1, 1000) ∧ hsN = [] ++ []) := by
  refine jT_advK 35 (pcN := 22) (LN := [(3, (0, 3)), (1, (1, 1000)), (0, (0, 3))]) (stN := [(1, 1000)]) (hsN := []) (c1 := 0) (s1 := 0) (c2 := 0) (s2 := 0) (by decide +kernel) ?_ (by omega) (by omega)
  exact jT_ret rfl (by decide) (by show 0 ≤ 0; decide) (by omega) (by omega) ⟨rfl, rfl, rfl⟩
theorem jA_218_1366 {xs : List Int} {d : Nat} : jT xs d 218 16 0 [(0, (4, 0)), (1, (1, 1200000))] [] jpA_147 1 6 (fun k v hsN => k = 0 ∧ v = (4, 16) ∧ hsN = jpA_147 ++ [(101, [], [0, 0, 0, 0, 0, 0])]) := by
  refine jT_advK 93 (pcN := 35) (LN := [(4, (0, 6)), (3, (4, 16)), (0, (4, 0)), (1, (1, 1200000))]) (stN := [(4, 16)]) (hsN := jpA_984) (c1 := 1) (s1 := 6) (c2 := 0) (s2 := 0) (by decide +kernel) ?_ (by omega) (by omega)
  exact jT_ret rfl (by decide) (by show 16 ≤ 17; decide) (by omega) (by omega) ⟨rfl, rfl, rfl⟩
theorem jA_265_1367 {xs : List Int} {d : Nat} : jT xs (d + 6) 265 22 0 [(0, (4, 0)), (1, (1, 1000)), (3, (0, 0))] [] jpA_684 6 186 (fun k v hsN => k = 0 ∧ v = (1, 0) ∧ hsN = jpA_684 ++ jpA_4341) := by
  refine jT_advK 4 (pcN := 6) (LN := [(0, (4, 0)), (1, (1, 1000)), (3, (0, 0))]) (stN := [(1, 1200000), (4, 0)]) (hsN := jpA_684) (c1 := 0) (s1 := 0) (c2 := 6) (s2 := 186) (by decide +kernel) ?_ (by omega) (by omega)
  refine jT_fA [0, 1, 2, 3, 4, 5, 6, 7, 8, 9, 10, 11, 12, 13, 14, 15] 22 (y := 218) (pcN := 9) (dC := 0) (bc1 := 1) (bc2 := 6) (c1 := 5) (c2 := 180) (as := [(4, 0), (1, 1200000)]) (asC := [(4, 0), (1, 1200000)]) (LN := [(0, (4, 0)), (1, (1, 1000)), (3, (0, 0))]) (stN := []) (hsC := jpA_147) (ex := [(101, [], [0, 0, 0, 0, 0, 0])]) (v := (4, 16)) (st2 := [(4, 22)]) (hs2 := jpA_3652) (jA_218_1366 (d := 0)) (by rfl) (by rfl) (by decide +kernel) (by rfl) (by rfl) (by omega) (by omega) (by omega) (by omega) rfl (by decide +kernel) ?_
  refine jT_advK 8 (pcN := 34) (LN := [(4, (4, 22)), (0, (4, 0)), (1, (1, 1000)), (3, (0, 0))]) (stN := [(1, 1), (4, 22), (4, 0)]) (hsN := jpA_3652) (c1 := 0) (s1 := 0) (c2 := 5) (s2 := 180) (by decide +kernel) ?_ (by omega) (by omega)
  refine jT_fA [0, 22, 1, 2, 3, 4, 5, 6, 7, 8, 9, 10, 11, 12, 13, 14, 15, 16, 17, 18, 19, 20, 21] 23 (y := 210) (pcN := 37) (dC := 5) (bc1 := 5) (bc2 := 180) (c1 := 0) (c2 := 0) (as := [(4, 0), (4, 22), (1, 1)]) (asC := [(4, 0), (4, 1), (1, 1)]) (LN := [(4, (4, 22)), (0, (4, 0)), (1, (1, 1000)), (3, (0, 0))]) (stN := []) (hsC := jpA_987) (ex := jpA_683) (v := (1, 0)) (st2 := [(1, 0)]) (hs2 := jpA_4340) (jA_210_1290 (d := 0)) (by rfl) (by rfl) (by decide +kernel) (by rfl) (by rfl) (by omega) (by omega) (by omega) (by omega) rfl (by decide +kernel) ?_
  refine jT_advK 5 (pcN := 68) (LN := [(5, (1, 0)), (4, (4, 22)), (0, (4, 0)), (1, (1, 1000)), (3, (0, 0))]) (stN := [(1, 0)]) (hsN := jpA_4340) (c1 := 0) (s1 := 0) (c2 := 0) (s2 := 0) (by decide +kernel) ?_ (by omega) (by omega)
  exact jT_ret rfl (by decide) (by show 22 ≤ 28; decide) (by omega) (by omega) ⟨rfl, rfl, rfl⟩
theorem jA_263_1368 {xs : List Int} {d : Nat} {x1 : Int} (h_x1 : 0 ≤ x1 ∧ x1 ≤ 7) : jT xs (d + 7) 263 22 0 [(0, (4, 0)), (1, (0, x1)), (2, (0, 3)), (3, (0, 0))] [] jpA_1695 6 186 (fun k v hsN => k = 0 ∧ v = (1, 0) ∧ hsN = jpA_1695 ++ jpA_4341) := by
  refine jT_xaload_n (v := (4, 0)) (pcN := 1) jI_263_0 rfl rfl rfl ?_
  refine jT_xiload_n (v := (0, x1)) (pcN := 2) jI_263_1 rfl rfl rfl ?_
  refine jT_fR [] 22 (y := 188) (pcN := 5) (dC := 1) (bc1 := 0) (bc2 := 0) (c1 := 6) (c2 := 186) (as := [(0, x1)]) (asC := [(0, x1)]) (LN := [(0, (4, 0)), (1, (0, x1)), (2, (0, 3)), (3, (0, 0))]) (stN := [(4, 0)]) (hsC := []) (v := (0, 1)) (st2 := [(0, 1), (4, 0)]) (jA_188_13 (d := 0) (by omega)) (by rfl) (by rfl) (by decide +kernel) (by rfl) (by rfl) (by omega) (by omega) (by omega) (by omega) rfl ?_
  refine jT_fR [0, 1, 2, 3, 4, 5, 6, 7, 8, 9, 10, 11, 12, 13, 14, 15] 22 (y := 190) (pcN := 8) (dC := 1) (bc1 := 0) (bc2 := 0) (c1 := 6) (c2 := 186) (as := [(4, 0), (0, 1)]) (asC := [(4, 0), (0, 1)]) (LN := [(0, (4, 0)), (1, (0, x1)), (2, (0, 3)), (3, (0, 0))]) (stN := []) (hsC := jpA_22) (v := (0, 0)) (st2 := [(0, 0)]) (jA_190_39 (d := 0)) (by rfl) (by rfl) (by decide +kernel) (by rfl) (by rfl) (by omega) (by omega) (by omega) (by omega) rfl ?_
  refine jT_xifF (t := 48) (pcN := 11) jI_263_8 rfl (by decide +kernel) rfl rfl ?_
  refine jT_xaload_n (v := (4, 0)) (pcN := 12) jI_263_11 rfl rfl rfl ?_
  refine jT_xiload_n (v := (0, 3)) (pcN := 13) jI_263_12 rfl rfl rfl ?_
  refine jT_xi2l (x := 3) (z := 3) (pcN := 14) jI_263_13 rfl (by decide +kernel) rfl ?_
  refine jT_xlconst (z := 0) (pcN := 15) jI_263_14 rfl rfl ?_
  refine jT_adv 1 (pcN := 18) (LN := [(0, (4, 0)), (1, (0, x1)), (2, (0, 3)), (3, (0, 0))]) (stN := [(1, 9), (1, 0), (1, 3), (4, 0)]) (hsN := jpA_1695) (c1 := 0) (s1 := 0) (c2 := 6) (s2 := 186) (by exact rfl) ?_ (by omega) (by omega)
  refine jT_fR [] 22 (y := 189) (pcN := 21) (dC := 0) (bc1 := 0) (bc2 := 0) (c1 := 6) (c2 := 186) (as := [(1, 3), (1, 0), (1, 9)]) (asC := [(1, 3), (1, 0), (1, 9)]) (LN := [(0, (4, 0)), (1, (0, x1)), (2, (0, 3)), (3, (0, 0))]) (stN := [(4, 0)]) (hsC := []) (v := (0, 1)) (st2 := [(0, 1), (4, 0)]) (jA_189_1364 (d := 0)) (by rfl) (by rfl) (by decide +kernel) (by rfl) (by rfl) (by omega) (by omega) (by omega) (by omega) rfl ?_
  refine jT_xifF (t := 40) (pcN := 24) jI_263_21 rfl (by decide +kernel) rfl rfl ?_
  refine jT_xiload_n (v := (0, 0)) (pcN := 25) jI_263_24 rfl rfl rfl ?_
  refine jT_xi2l (x := 0) (z := 0) (pcN := 26) jI_263_25 rfl (by decide +kernel) rfl ?_
  refine jT_xlconst (z := 0) (pcN := 27) jI_263_26 rfl rfl ?_
  refine jT_adv 1 (pcN := 30) (LN := [(0, (4, 0)), (1, (0, x1)), (2, (0, 3)), (3, (0, 0))]) (stN := [(1, 2), (1, 0), (1, 0), (4, 0)]) (hsN := jpA_1695) (c1 := 0) (s1 := 0) (c2 := 6) (s2 := 186) (by exact rfl) ?_ (by omega) (by omega)
  refine jT_fR [] 22 (y := 189) (pcN := 33) (dC := 0) (bc1 := 0) (bc2 := 0) (c1 := 6) (c2 := 186) (as := [(1, 0), (1, 0), (1, 2)]) (asC := [(1, 0), (1, 0), (1, 2)]) (LN := [(0, (4, 0)), (1, (0, x1)), (2, (0, 3)), (3, (0, 0))]) (stN := [(4, 0)]) (hsC := []) (v := (0, 1)) (st2 := [(0, 1), (4, 0)]) (jA_189_1286 (d := 0)) (by rfl) (by rfl) (by decide +kernel) (by rfl) (by rfl) (by omega) (by omega) (by omega) (by omega) rfl ?_
  refine jT_xifF (t := 40) (pcN := 36) jI_263_33 rfl (by decide +kernel) rfl rfl ?_
  refine jT_xiconst (k := 1) (pcN := 37) jI_263_36 rfl ?_
  refine jT_xgoto (pcN := 41) jI_263_37 rfl ?_
  refine jT_xiconst (k := 2) (pcN := 42) jI_263_41 rfl ?_
  refine jT_fR [0] 22 (y := 191) (pcN := 45) (dC := 0) (bc1 := 0) (bc2 := 0) (c1 := 6) (c2 := 186) (as := [(4, 0), (0, 1), (0, 2)]) (asC := [(4, 0), (0, 1), (0, 2)]) (LN := [(0, (4, 0)), (1, (0, x1)), (2, (0, 3)), (3, (0, 0))]) (stN := []) (hsC := [jgh]) (v := (0, 0)) (st2 := [(0, 0)]) (jA_191_49 (d := 0)) (by rfl) (by rfl) (by decide +kernel) (by rfl) (by rfl) (by omega) (by omega) (by omega) (by omega) rfl ?_
  refine jT_xifT (pcN := 50) jI_263_45 rfl (by decide +kernel) rfl ?_
  refine jT_xaload_n (v := (4, 0)) (pcN := 51) jI_263_50 rfl rfl rfl ?_
  refine jT_xiload_n (v := (0, x1)) (pcN := 52) jI_263_51 rfl rfl rfl ?_
  refine jT_fR [0, 1, 2, 3, 4, 5, 6, 7, 8, 9, 10, 11, 12, 13, 14, 15] 22 (y := 202) (pcN := 55) (dC := 1) (bc1 := 0) (bc2 := 0) (c1 := 6) (c2 := 186) (as := [(4, 0), (0, x1)]) (asC := [(4, 0), (0, x1)]) (LN := [(0, (4, 0)), (1, (0, x1)), (2, (0, 3)), (3, (0, 0))]) (stN := []) (hsC := jpA_130) (v := (9, 0)) (st2 := []) (jA_202_115 (d := 0) (by omega)) (by rfl) (by rfl) (by decide +kernel) (by rfl) (by rfl) (by omega) (by omega) (by omega) (by omega) rfl ?_
  refine jT_xaload_n (v := (4, 0)) (pcN := 56) jI_263_55 rfl rfl rfl ?_
  refine jT_xiload_n (v := (0, 3)) (pcN := 57) jI_263_56 rfl rfl rfl ?_
  refine jT_fR [] 22 (y := 264) (pcN := 60) (dC := 0) (bc1 := 0) (bc2 := 0) (c1 := 6) (c2 := 186) (as := [(0, 3)]) (asC := [(0, 3)]) (LN := [(0, (4, 0)), (1, (0, x1)), (2, (0, 3)), (3, (0, 0))]) (stN := [(4, 0)]) (hsC := []) (v := (1, 1000)) (st2 := [(1, 1000), (4, 0)]) (jA_264_1365 (d := 0)) (by rfl) (by rfl) (by decide +kernel) (by rfl) (by rfl) (by omega) (by omega) (by omega) (by omega) rfl ?_
  refine jT_xiload_n (v := (0, 0)) (pcN := 61) jI_263_60 rfl rfl rfl ?_
  refine jT_fA [0, 1, 2, 3, 4, 5, 6, 7, 8, 9, 10, 11, 12, 13, 14, 15, 16, 17, 18, 19, 20, 21] 22 (y := 265) (pcN := 64) (dC := 6) (bc1 := 6) (bc2 := 186) (c1 := 0) (c2 := 0) (as := [(4, 0), (1, 1000), (0, 0)]) (asC := [(4, 0), (1, 1000), (0, 0)]) (LN := [(0, (4, 0)), (1, (0, x1)), (2, (0, 3)), (3, (0, 0))]) (stN := []) (hsC := jpA_684) (ex := jpA_4341) (v := (1, 0)) (st2 := [(1, 0)]) (hs2 := jpA_4349) (jA_265_1367 (d := 0)) (by rfl) (by rfl) (by decide +kernel) (by rfl) (by rfl) (by omega) (by omega) (by omega) (by omega) rfl (by decide +kernel) ?_
  exact jT_ret rfl (by decide) (by show 22 ≤ 28; decide) (by omega) (by omega) ⟨rfl, rfl, rfl⟩
theorem jA_108_1369 {xs : List Int} {d : Nat} : jT xs (d + 3) 108 16 0 [(0, (4, 0)), (1, (4, 1)), (2, (0, 3)), (3, (0, 1))] [] jpA_4325 2 8 (fun k v hsN => k = 0 ∧ v = (1, 0) ∧ hsN = jpA_4325 ++ [(101, [], [0, 0, 0, 0, 0, 0]), (4, [(4, 16), (1, 1)], [])]) := by
  refine jT_advK 45 (pcN := 69) (LN := [(6, (0, 3)), (4, (1, 1200000)), (0, (4, 0)), (1, (4, 1)), (2, (0, 3)), (3, (0, 1))]) (stN := [(1, 0), (1, 1), (1, (-1)), (4, 1), (4, 2)]) (hsN := jpA_4325) (c1 := 0) (s1 := 0) (c2 := 2) (s2 := 8) (by decide +kernel) ?_ (by omega) (by omega)
  refine jT_fA [1, 13] 16 (y := 10) (pcN := 72) (dC := 2) (bc1 := 2) (bc2 := 8) (c1 := 0) (c2 := 0) (as := [(4, 1), (1, (-1)), (1, 1), (1, 0)]) (asC := [(4, 0), (1, (-1)), (1, 1), (1, 0)]) (LN := [(6, (0, 3)), (4, (1, 1200000)), (0, (4, 0)), (1, (4, 1)), (2, (0, 3)), (3, (0, 1))]) (stN := [(4, 2)]) (hsC := [(4, [(4, 1), (1, 1)], []), (101, [], [0, 0, 0, 0, 0, 0])]) (ex := [(101, [], [0, 0, 0, 0, 0, 0]), (4, [(4, 2), (1, 1)], [])]) (v := (4, 3)) (st2 := [(4, 17), (4, 2)]) (hs2 := jpA_4350) (jA_10_1294 (d := 0)) (by rfl) (by rfl) (by decide +kernel) (by rfl) (by rfl) (by omega) (by omega) (by omega) (by omega) rfl (by decide +kernel) ?_
  refine jT_advK 1 (pcN := 74) (LN := [(6, (0, 3)), (4, (1, 1200000)), (0, (4, 0)), (1, (4, 1)), (2, (0, 3)), (3, (0, 1))]) (stN := [(1, 1200000), (4, 17), (4, 2)]) (hsN := jpA_4350) (c1 := 0) (s1 := 0) (c2 := 0) (s2 := 0) (by decide +kernel) ?_ (by omega) (by omega)
  refine jT_fR [2, 17, 14, 15, 16] 18 (y := 44) (pcN := 77) (dC := 2) (bc1 := 0) (bc2 := 0) (c1 := 0) (c2 := 0) (as := [(4, 2), (4, 17), (1, 1200000)]) (asC := [(4, 0), (4, 1), (1, 1200000)]) (LN := [(6, (0, 3)), (4, (1, 1200000)), (0, (4, 0)), (1, (4, 1)), (2, (0, 3)), (3, (0, 1))]) (stN := []) (hsC := jpA_626) (v := (1, 0)) (st2 := [(1, 0)]) (jA_44_1360 (d := 0)) (by rfl) (by rfl) (by decide +kernel) (by rfl) (by rfl) (by omega) (by omega) (by omega) (by omega) rfl ?_
  refine jT_advK 1 (pcN := 78) (LN := [(6, (0, 3)), (4, (1, 1200000)), (0, (4, 0)), (1, (4, 1)), (2, (0, 3)), (3, (0, 1))]) (stN := [(1, 0)]) (hsN := jpA_4350) (c1 := 0) (s1 := 0) (c2 := 0) (s2 := 0) (by decide +kernel) ?_ (by omega) (by omega)
  exact jT_ret rfl (by decide) (by show 16 ≤ 18; decide) (by omega) (by omega) ⟨rfl, rfl, rfl⟩
theorem jA_140_1370 {xs : List Int} {d : Nat} {x1 : Int} (h_x1 : 0 ≤ x1 ∧ x1 ≤ 7) : jT xs (d + 4) 140 21 0 [(0, (4, 0)), (1, (0, x1)), (2, (0, 3)), (3, (0, 1))] [] jpA_3958 2 8 (fun k v hsN => k = 0 ∧ v = (1, 0) ∧ hsN = jpA_3958 ++ [(101, [], [0, 0, 0, 0, 0, 0]), (4, [(4, 21), (1, 1)], [])]) := by
  refine jT_xaload_n (v := (4, 0)) (pcN := 1) jI_140_0 rfl rfl rfl ?_
  refine jT_xiload_n (v := (0, x1)) (pcN := 2) jI_140_1 rfl rfl rfl ?_
  refine jT_xbipush (k := 8) (pcN := 4) jI_140_2 (by decide) rfl ?_
  refine jT_fR [0] 21 (y := 115) (pcN := 7) (dC := 0) (bc1 := 0) (bc2 := 0) (c1 := 2) (c2 := 8) (as := [(4, 0), (0, x1), (0, 8)]) (asC := [(4, 0), (0, x1), (0, 8)]) (LN := [(0, (4, 0)), (1, (0, x1)), (2, (0, 3)), (3, (0, 1))]) (stN := []) (hsC := [jgh]) (v := (9, 0)) (st2 := []) (jA_115_9 (d := 0) (by omega)) (by rfl) (by rfl) (by decide +kernel) (by rfl) (by rfl) (by omega) (by omega) (by omega) (by omega) rfl ?_
  refine jT_xaload_n (v := (4, 0)) (pcN := 8) jI_140_7 rfl rfl rfl ?_
  refine jT_xiload_n (v := (0, 3)) (pcN := 9) jI_140_8 rfl rfl rfl ?_
  refine jT_xiconst (k := 0) (pcN := 10) jI_140_9 rfl ?_
  refine jT_xbipush (k := 9) (pcN := 12) jI_140_10 (by decide) rfl ?_
  refine jT_fR [0] 21 (y := 116) (pcN := 15) (dC := 0) (bc1 := 0) (bc2 := 0) (c1 := 2) (c2 := 8) (as := [(4, 0), (0, 3), (0, 0), (0, 9)]) (asC := [(4, 0), (0, 3), (0, 0), (0, 9)]) (LN := [(0, (4, 0)), (1, (0, x1)), (2, (0, 3)), (3, (0, 1))]) (stN := []) (hsC := [jgh]) (v := (9, 0)) (st2 := []) (jA_116_1358 (d := 0)) (by rfl) (by rfl) (by decide +kernel) (by rfl) (by rfl) (by omega) (by omega) (by omega) (by omega) rfl ?_
  refine jT_xaload_n (v := (4, 0)) (pcN := 16) jI_140_15 rfl rfl rfl ?_
  refine jT_xiload_n (v := (0, 1)) (pcN := 17) jI_140_16 rfl rfl rfl ?_
  refine jT_xiconst (k := 0) (pcN := 18) jI_140_17 rfl ?_
  refine jT_xiconst (k := 2) (pcN := 19) jI_140_18 rfl ?_
  refine jT_fR [0] 21 (y := 116) (pcN := 22) (dC := 0) (bc1 := 0) (bc2 := 0) (c1 := 2) (c2 := 8) (as := [(4, 0), (0, 1), (0, 0), (0, 2)]) (asC := [(4, 0), (0, 1), (0, 0), (0, 2)]) (LN := [(0, (4, 0)), (1, (0, x1)), (2, (0, 3)), (3, (0, 1))]) (stN := []) (hsC := [jgh]) (v := (9, 0)) (st2 := []) (jA_116_1293 (d := 0)) (by rfl) (by rfl) (by decide +kernel) (by rfl) (by rfl) (by omega) (by omega) (by omega) (by omega) rfl ?_
  refine jT_xaload_n (v := (4, 0)) (pcN := 23) jI_140_22 rfl rfl rfl ?_
  refine jT_xaload_n (v := (4, 0)) (pcN := 24) jI_140_23 rfl rfl rfl ?_
  refine jT_xgetf (a := 0) (t := 1) (ci := 13) (fi := 11) (c := jzA_5) (v := (4, 11)) (pcN := 27) jI_140_24 rfl rfl rfl rfl rfl rfl rfl ?_
  refine jT_xiload_n (v := (0, x1)) (pcN := 28) jI_140_27 rfl rfl rfl ?_
  refine jT_fR [11, 14, 15, 16, 17, 18, 19] 21 (y := 57) (pcN := 31) (dC := 0) (bc1 := 0) (bc2 := 0) (c1 := 2) (c2 := 8) (as := [(4, 11), (0, x1)]) (asC := [(4, 0), (0, x1)]) (LN := [(0, (4, 0)), (1, (0, x1)), (2, (0, 3)), (3, (0, 1))]) (stN := [(4, 0)]) (hsC := jpA_47) (v := (4, 6)) (st2 := [(4, 19), (4, 0)]) (jA_57_108 (d := 0) (by omega)) (by rfl) (by rfl) (by decide +kernel) (by rfl) (by rfl) (by omega) (by omega) (by omega) (by omega) rfl ?_
  refine jT_xiload_n (v := (0, 3)) (pcN := 32) jI_140_31 rfl rfl rfl ?_
  refine jT_xiload_n (v := (0, 1)) (pcN := 33) jI_140_32 rfl rfl rfl ?_
  refine jT_fA [0, 19, 1, 2, 3, 4, 5, 6, 7, 8, 9, 10, 11, 20, 12, 13] 21 (y := 108) (pcN := 36) (dC := 3) (bc1 := 2) (bc2 := 8) (c1 := 0) (c2 := 0) (as := [(4, 0), (4, 19), (0, 3), (0, 1)]) (asC := [(4, 0), (4, 1), (0, 3), (0, 1)]) (LN := [(0, (4, 0)), (1, (0, x1)), (2, (0, 3)), (3, (0, 1))]) (stN := []) (hsC := jpA_4325) (ex := [(101, [], [0, 0, 0, 0, 0, 0]), (4, [(4, 16), (1, 1)], [])]) (v := (1, 0)) (st2 := [(1, 0)]) (hs2 := jpA_4351) (jA_108_1369 (d := 0)) (by rfl) (by rfl) (by decide +kernel) (by rfl) (by rfl) (by omega) (by omega) (by omega) (by omega) rfl (by decide +kernel) ?_
  exact jT_ret rfl (by decide) (by show 21 ≤ 23; decide) (by omega) (by omega) ⟨rfl, rfl, rfl⟩
theorem jA_347_1371 {xs : List Int} {d : Nat} {x1 : Int} (h_x1 : 0 ≤ x1 ∧ x1 ≤ 7) : jT xs (d + 5) 347 22 0 [(0, (4, 0)), (1, (0, x1)), (2, (0, 3)), (3, (0, 1)), (4, (4, 1))] [] jpA_4038 2 8 (fun k v hsN => k = 0 ∧ v = (0, 0) ∧ hsN = jpA_4038 ++ [(101, [], [0, 0, 0, 0, 0, 0]), (4, [(4, 22), (1, 1)], [])]) := by
  refine jT_xaload (v := (4, 1)) (pcN := 2) jI_347_0 rfl rfl rfl ?_
  refine jT_xiconst (k := 0) (pcN := 3) jI_347_2 rfl ?_
  refine jT_xaload_n (v := (4, 0)) (pcN := 4) jI_347_3 rfl rfl rfl ?_
  refine jT_xiload_n (v := (0, x1)) (pcN := 5) jI_347_4 rfl rfl rfl ?_
  refine jT_xiload_n (v := (0, 3)) (pcN := 6) jI_347_5 rfl rfl rfl ?_
  refine jT_xiload_n (v := (0, 1)) (pcN := 7) jI_347_6 rfl rfl rfl ?_
  refine jT_fA [0, 2, 3, 4, 5, 6, 7, 8, 9, 10, 11, 12, 13, 14, 15, 16, 17, 18, 19, 20, 21] 22 (y := 140) (pcN := 10) (dC := 4) (bc1 := 2) (bc2 := 8) (c1 := 0) (c2 := 0) (as := [(4, 0), (0, x1), (0, 3), (0, 1)]) (asC := [(4, 0), (0, x1), (0, 3), (0, 1)]) (LN := [(0, (4, 0)), (1, (0, x1)), (2, (0, 3)), (3, (0, 1)), (4, (4, 1))]) (stN := [(0, 0), (4, 1)]) (hsC := jpA_3958) (ex := [(101, [], [0, 0, 0, 0, 0, 0]), (4, [(4, 21), (1, 1)], [])]) (v := (1, 0)) (st2 := [(1, 0), (0, 0), (4, 1)]) (hs2 := jpA_4352) (jA_140_1370 (d := 0) (by omega)) (by rfl) (by rfl) (by decide +kernel) (by rfl) (by rfl) (by omega) (by omega) (by omega) (by omega) rfl (by decide +kernel) ?_
  refine jT_adv 1 (pcN := 11) (LN := [(0, (4, 0)), (1, (0, x1)), (2, (0, 3)), (3, (0, 1)), (4, (4, 1))]) (stN := []) (hsN := jpA_4352) (c1 := 0) (s1 := 0) (c2 := 0) (s2 := 0) (by exact rfl) ?_ (by omega) (by omega)
  refine jT_xgoto (pcN := 22) jI_347_11 rfl ?_
  refine jT_xiconst (k := 0) (pcN := 23) jI_347_22 rfl ?_
  exact jT_ret rfl (by decide) (by show 22 ≤ 24; decide) (by omega) (by omega) ⟨rfl, rfl, rfl⟩
theorem jA_265_1372 {xs : List Int} {d : Nat} : jT xs (d + 6) 265 22 0 [(0, (4, 0)), (1, (1, 1000)), (3, (0, 1))] [] jpA_684 7 192 (fun k v hsN => k = 0 ∧ v = (1, 0) ∧ hsN = jpA_684 ++ jpA_4354) := by
  refine jT_advK 4 (pcN := 6) (LN := [(0, (4, 0)), (1, (1, 1000)), (3, (0, 1))]) (stN := [(1, 1200000), (4, 0)]) (hsN := jpA_684) (c1 := 0) (s1 := 0) (c2 := 7) (s2 := 192) (by decide +kernel) ?_ (by omega) (by omega)
  refine jT_fA [0, 1, 2, 3, 4, 5, 6, 7, 8, 9, 10, 11, 12, 13, 14, 15] 22 (y := 218) (pcN := 9) (dC := 0) (bc1 := 1) (bc2 := 6) (c1 := 6) (c2 := 186) (as := [(4, 0), (1, 1200000)]) (asC := [(4, 0), (1, 1200000)]) (LN := [(0, (4, 0)), (1, (1, 1000)), (3, (0, 1))]) (stN := []) (hsC := jpA_147) (ex := [(101, [], [0, 0, 0, 0, 0, 0])]) (v := (4, 16)) (st2 := [(4, 22)]) (hs2 := jpA_3652) (jA_218_1366 (d := 0)) (by rfl) (by rfl) (by decide +kernel) (by rfl) (by rfl) (by omega) (by omega) (by omega) (by omega) rfl (by decide +kernel) ?_
  refine jT_advK 8 (pcN := 34) (LN := [(4, (4, 22)), (0, (4, 0)), (1, (1, 1000)), (3, (0, 1))]) (stN := [(1, 1), (4, 22), (4, 0)]) (hsN := jpA_3652) (c1 := 0) (s1 := 0) (c2 := 6) (s2 := 186) (by decide +kernel) ?_ (by omega) (by omega)
  refine jT_fA [0, 22, 1, 2, 3, 4, 5, 6, 7, 8, 9, 10, 11, 12, 13, 14, 15, 16, 17, 18, 19, 20, 21] 23 (y := 210) (pcN := 37) (dC := 5) (bc1 := 5) (bc2 := 180) (c1 := 1) (c2 := 6) (as := [(4, 0), (4, 22), (1, 1)]) (asC := [(4, 0), (4, 1), (1, 1)]) (LN := [(4, (4, 22)), (0, (4, 0)), (1, (1, 1000)), (3, (0, 1))]) (stN := []) (hsC := jpA_987) (ex := jpA_683) (v := (1, 0)) (st2 := [(1, 0)]) (hs2 := jpA_4340) (jA_210_1290 (d := 0)) (by rfl) (by rfl) (by decide +kernel) (by rfl) (by rfl) (by omega) (by omega) (by omega) (by omega) rfl (by decide +kernel) ?_
  refine jT_advK 9 (pcN := 53) (LN := [(5, (1, 0)), (4, (4, 22)), (0, (4, 0)), (1, (1, 1000)), (3, (0, 1))]) (stN := [(1, 0), (4, 22), (4, 0)]) (hsN := jpA_4340) (c1 := 0) (s1 := 0) (c2 := 1) (s2 := 6) (by decide +kernel) ?_ (by omega) (by omega)
  refine jT_fA [0, 22, 1, 2, 3, 4, 5, 6, 7, 8, 9, 10, 11, 12, 13, 14, 15] 28 (y := 212) (pcN := 56) (dC := 2) (bc1 := 1) (bc2 := 6) (c1 := 0) (c2 := 0) (as := [(4, 0), (4, 22), (1, 0)]) (asC := [(4, 0), (4, 1), (1, 0)]) (LN := [(5, (1, 0)), (4, (4, 22)), (0, (4, 0)), (1, (1, 1000)), (3, (0, 1))]) (stN := []) (hsC := jpA_4335) (ex := [(101, [], [0, 0, 0, 0, 0, 0])]) (v := (0, 0)) (st2 := [(0, 0)]) (hs2 := jpA_4353) (jA_212_1288 (d := 0)) (by rfl) (by rfl) (by decide +kernel) (by rfl) (by rfl) (by omega) (by omega) (by omega) (by omega) rfl (by decide +kernel) ?_
  refine jT_advK 3 (pcN := 68) (LN := [(5, (1, 0)), (4, (4, 22)), (0, (4, 0)), (1, (1, 1000)), (3, (0, 1))]) (stN := [(1, 0)]) (hsN := jpA_4353) (c1 := 0) (s1 := 0) (c2 := 0) (s2 := 0) (by decide +kernel) ?_ (by omega) (by omega)
  exact jT_ret rfl (by decide) (by show 22 ≤ 29; decide) (by omega) (by omega) ⟨rfl, rfl, rfl⟩
theorem jA_263_1373 {xs : List Int} {d : Nat} {x1 : Int} (h_x1 : 0 ≤ x1 ∧ x1 ≤ 7) : jT xs (d + 7) 263 22 0 [(0, (4, 0)), (1, (0, x1)), (2, (0, 3)), (3, (0, 1))] [] jpA_1695 7 192 (fun k v hsN => k = 0 ∧ v = (1, 0) ∧ hsN = jpA_1695 ++ jpA_4354) := by
  refine jT_xaload_n (v := (4, 0)) (pcN := 1) jI_263_0 rfl rfl rfl ?_
  refine jT_xiload_n (v := (0, x1)) (pcN := 2) jI_263_1 rfl rfl rfl ?_
  refine jT_fR [] 22 (y := 188) (pcN := 5) (dC := 1) (bc1 := 0) (bc2 := 0) (c1 := 7) (c2 := 192) (as := [(0, x1)]) (asC := [(0, x1)]) (LN := [(0, (4, 0)), (1, (0, x1)), (2, (0, 3)), (3, (0, 1))]) (stN := [(4, 0)]) (hsC := []) (v := (0, 1)) (st2 := [(0, 1), (4, 0)]) (jA_188_13 (d := 0) (by omega)) (by rfl) (by rfl) (by decide +kernel) (by rfl) (by rfl) (by omega) (by omega) (by omega) (by omega) rfl ?_
  refine jT_fR [0, 1, 2, 3, 4, 5, 6, 7, 8, 9, 10, 11, 12, 13, 14, 15] 22 (y := 190) (pcN := 8) (dC := 1) (bc1 := 0) (bc2 := 0) (c1 := 7) (c2 := 192) (as := [(4, 0), (0, 1)]) (asC := [(4, 0), (0, 1)]) (LN := [(0, (4, 0)), (1, (0, x1)), (2, (0, 3)), (3, (0, 1))]) (stN := []) (hsC := jpA_22) (v := (0, 0)) (st2 := [(0, 0)]) (jA_190_39 (d := 0)) (by rfl) (by rfl) (by decide +kernel) (by rfl) (by rfl) (by omega) (by omega) (by omega) (by omega) rfl ?_
  refine jT_xifF (t := 48) (pcN := 11) jI_263_8 rfl (by decide +kernel) rfl rfl ?_
  refine jT_xaload_n (v := (4, 0)) (pcN := 12) jI_263_11 rfl rfl rfl ?_
  refine jT_xiload_n (v := (0, 3)) (pcN := 13) jI_263_12 rfl rfl rfl ?_
  refine jT_xi2l (x := 3) (z := 3) (pcN := 14) jI_263_13 rfl (by decide +kernel) rfl ?_
  refine jT_xlconst (z := 0) (pcN := 15) jI_263_14 rfl rfl ?_
  refine jT_adv 1 (pcN := 18) (LN := [(0, (4, 0)), (1, (0, x1)), (2, (0, 3)), (3, (0, 1))]) (stN := [(1, 9), (1, 0), (1, 3), (4, 0)]) (hsN := jpA_1695) (c1 := 0) (s1 := 0) (c2 := 7) (s2 := 192) (by exact rfl) ?_ (by omega) (by omega)
  refine jT_fR [] 22 (y := 189) (pcN := 21) (dC := 0) (bc1 := 0) (bc2 := 0) (c1 := 7) (c2 := 192) (as := [(1, 3), (1, 0), (1, 9)]) (asC := [(1, 3), (1, 0), (1, 9)]) (LN := [(0, (4, 0)), (1, (0, x1)), (2, (0, 3)), (3, (0, 1))]) (stN := [(4, 0)]) (hsC := []) (v := (0, 1)) (st2 := [(0, 1), (4, 0)]) (jA_189_1364 (d := 0)) (by rfl) (by rfl) (by decide +kernel) (by rfl) (by rfl) (by omega) (by omega) (by omega) (by omega) rfl ?_
  refine jT_xifF (t := 40) (pcN := 24) jI_263_21 rfl (by decide +kernel) rfl rfl ?_
  refine jT_xiload_n (v := (0, 1)) (pcN := 25) jI_263_24 rfl rfl rfl ?_
  refine jT_xi2l (x := 1) (z := 1) (pcN := 26) jI_263_25 rfl (by decide +kernel) rfl ?_
  refine jT_xlconst (z := 0) (pcN := 27) jI_263_26 rfl rfl ?_
  refine jT_adv 1 (pcN := 30) (LN := [(0, (4, 0)), (1, (0, x1)), (2, (0, 3)), (3, (0, 1))]) (stN := [(1, 2), (1, 0), (1, 1), (4, 0)]) (hsN := jpA_1695) (c1 := 0) (s1 := 0) (c2 := 7) (s2 := 192) (by exact rfl) ?_ (by omega) (by omega)
  refine jT_fR [] 22 (y := 189) (pcN := 33) (dC := 0) (bc1 := 0) (bc2 := 0) (c1 := 7) (c2 := 192) (as := [(1, 1), (1, 0), (1, 2)]) (asC := [(1, 1), (1, 0), (1, 2)]) (LN := [(0, (4, 0)), (1, (0, x1)), (2, (0, 3)), (3, (0, 1))]) (stN := [(4, 0)]) (hsC := []) (v := (0, 1)) (st2 := [(0, 1), (4, 0)]) (jA_189_1298 (d := 0)) (by rfl) (by rfl) (by decide +kernel) (by rfl) (by rfl) (by omega) (by omega) (by omega) (by omega) rfl ?_
  refine jT_xifF (t := 40) (pcN := 36) jI_263_33 rfl (by decide +kernel) rfl rfl ?_
  refine jT_xiconst (k := 1) (pcN := 37) jI_263_36 rfl ?_
  refine jT_xgoto (pcN := 41) jI_263_37 rfl ?_
  refine jT_xiconst (k := 2) (pcN := 42) jI_263_41 rfl ?_
  refine jT_fR [0] 22 (y := 191) (pcN := 45) (dC := 0) (bc1 := 0) (bc2 := 0) (c1 := 7) (c2 := 192) (as := [(4, 0), (0, 1), (0, 2)]) (asC := [(4, 0), (0, 1), (0, 2)]) (LN := [(0, (4, 0)), (1, (0, x1)), (2, (0, 3)), (3, (0, 1))]) (stN := []) (hsC := [jgh]) (v := (0, 0)) (st2 := [(0, 0)]) (jA_191_49 (d := 0)) (by rfl) (by rfl) (by decide +kernel) (by rfl) (by rfl) (by omega) (by omega) (by omega) (by omega) rfl ?_
  refine jT_xifT (pcN := 50) jI_263_45 rfl (by decide +kernel) rfl ?_
  refine jT_xaload_n (v := (4, 0)) (pcN := 51) jI_263_50 rfl rfl rfl ?_
  refine jT_xiload_n (v := (0, x1)) (pcN := 52) jI_263_51 rfl rfl rfl ?_
  refine jT_fR [0, 1, 2, 3, 4, 5, 6, 7, 8, 9, 10, 11, 12, 13, 14, 15] 22 (y := 202) (pcN := 55) (dC := 1) (bc1 := 0) (bc2 := 0) (c1 := 7) (c2 := 192) (as := [(4, 0), (0, x1)]) (asC := [(4, 0), (0, x1)]) (LN := [(0, (4, 0)), (1, (0, x1)), (2, (0, 3)), (3, (0, 1))]) (stN := []) (hsC := jpA_130) (v := (9, 0)) (st2 := []) (jA_202_115 (d := 0) (by omega)) (by rfl) (by rfl) (by decide +kernel) (by rfl) (by rfl) (by omega) (by omega) (by omega) (by omega) rfl ?_
  refine jT_xaload_n (v := (4, 0)) (pcN := 56) jI_263_55 rfl rfl rfl ?_
  refine jT_xiload_n (v := (0, 3)) (pcN := 57) jI_263_56 rfl rfl rfl ?_
  refine jT_fR [] 22 (y := 264) (pcN := 60) (dC := 0) (bc1 := 0) (bc2 := 0) (c1 := 7) (c2 := 192) (as := [(0, 3)]) (asC := [(0, 3)]) (LN := [(0, (4, 0)), (1, (0, x1)), (2, (0, 3)), (3, (0, 1))]) (stN := [(4, 0)]) (hsC := []) (v := (1, 1000)) (st2 := [(1, 1000), (4, 0)]) (jA_264_1365 (d := 0)) (by rfl) (by rfl) (by decide +kernel) (by rfl) (by rfl) (by omega) (by omega) (by omega) (by omega) rfl ?_
  refine jT_xiload_n (v := (0, 1)) (pcN := 61) jI_263_60 rfl rfl rfl ?_
  refine jT_fA [0, 1, 2, 3, 4, 5, 6, 7, 8, 9, 10, 11, 12, 13, 14, 15, 16, 17, 18, 19, 20, 21] 22 (y := 265) (pcN := 64) (dC := 6) (bc1 := 7) (bc2 := 192) (c1 := 0) (c2 := 0) (as := [(4, 0), (1, 1000), (0, 1)]) (asC := [(4, 0), (1, 1000), (0, 1)]) (LN := [(0, (4, 0)), (1, (0, x1)), (2, (0, 3)), (3, (0, 1))]) (stN := []) (hsC := jpA_684) (ex := jpA_4354) (v := (1, 0)) (st2 := [(1, 0)]) (hs2 := jpA_4355) (jA_265_1372 (d := 0)) (by rfl) (by rfl) (by decide +kernel) (by rfl) (by rfl) (by omega) (by omega) (by omega) (by omega) rfl (by decide +kernel) ?_
  exact jT_ret rfl (by decide) (by show 22 ≤ 29; decide) (by omega) (by omega) ⟨rfl, rfl, rfl⟩
theorem jA_45_1374 {xs : List Int} {d : Nat} : jT xs (d + 1) 45 4 0 [(0, (4, 0)), (1, (4, 1)), (2, (1, 1)), (4, (1, 2400000))] [] jpA_625 0 0 (fun k v hsN => k = 0 ∧ v = (1, 0) ∧ hsN = jpA_625 ++ []) := by
  refine jT_advK 10 (pcN := 17) (LN := [(0, (4, 0)), (1, (4, 1)), (2, (1, 1)), (4, (1, 2400000))]) (stN := [(4, 1), (4, 0)]) (hsN := jpA_625) (c1 := 0) (s1 := 0) (c2 := 0) (s2 := 0) (by decide +kernel) ?_ (by omega) (by omega)
  refine jT_fR [0, 1] 4 (y := 39) (pcN := 20) (dC := 0) (bc1 := 0) (bc2 := 0) (c1 := 0) (c2 := 0) (as := [(4, 0), (4, 1)]) (asC := [(4, 0), (4, 1)]) (LN := [(0, (4, 0)), (1, (4, 1)), (2, (1, 1)), (4, (1, 2400000))]) (stN := []) (hsC := [jgh, (101, [], [0, 0, 0, 0, 0, 0])]) (v := (1, 0)) (st2 := [(1, 0)]) (jA_39_144 (d := 0)) (by rfl) (by rfl) (by decide +kernel) (by rfl) (by rfl) (by omega) (by omega) (by omega) (by omega) rfl ?_
  refine jT_advK 11 (pcN := 36) (LN := [(6, (1, 0)), (0, (4, 0)), (1, (4, 1)), (2, (1, 1)), (4, (1, 2400000))]) (stN := [(1, 1), (1, 0)]) (hsN := jpA_625) (c1 := 0) (s1 := 0) (c2 := 0) (s2 := 0) (by decide +kernel) ?_ (by omega) (by omega)
  refine jT_fR [] 4 (y := 373) (pcN := 39) (dC := 0) (bc1 := 0) (bc2 := 0) (c1 := 0) (c2 := 0) (as := [(1, 0), (1, 1)]) (asC := [(1, 0), (1, 1)]) (LN := [(6, (1, 0)), (0, (4, 0)), (1, (4, 1)), (2, (1, 1)), (4, (1, 2400000))]) (stN := []) (hsC := []) (v := (1, 0)) (st2 := [(1, 0)]) (jA_373_145 (d := 0)) (by rfl) (by rfl) (by decide +kernel) (by rfl) (by rfl) (by omega) (by omega) (by omega) (by omega) rfl ?_
  exact jT_ret rfl (by decide) (by show 4 ≤ 4; decide) (by omega) (by omega) ⟨rfl, rfl, rfl⟩
theorem jA_44_1375 {xs : List Int} {d : Nat} : jT xs (d + 2) 44 5 0 [(0, (4, 0)), (1, (4, 1)), (2, (1, 2400000))] [] jpA_626 0 0 (fun k v hsN => k = 0 ∧ v = (1, 0) ∧ hsN = jpA_626 ++ []) := by
  refine jT_advK 6 (pcN := 10) (LN := [(0, (4, 0)), (1, (4, 1)), (2, (1, 2400000))]) (stN := [(1, 2400000), (1, 1), (4, 4), (4, 0)]) (hsN := jpA_626) (c1 := 0) (s1 := 0) (c2 := 0) (s2 := 0) (by decide +kernel) ?_ (by omega) (by omega)
  refine jT_fR [0, 4, 2, 3] 5 (y := 45) (pcN := 13) (dC := 1) (bc1 := 0) (bc2 := 0) (c1 := 0) (c2 := 0) (as := [(4, 0), (4, 4), (1, 1), (1, 2400000)]) (asC := [(4, 0), (4, 1), (1, 1), (1, 2400000)]) (LN := [(0, (4, 0)), (1, (4, 1)), (2, (1, 2400000))]) (stN := []) (hsC := jpA_625) (v := (1, 0)) (st2 := [(1, 0)]) (jA_45_1374 (d := 0)) (by rfl) (by rfl) (by decide +kernel) (by rfl) (by rfl) (by omega) (by omega) (by omega) (by omega) rfl ?_
  exact jT_ret rfl (by decide) (by show 5 ≤ 5; decide) (by omega) (by omega) ⟨rfl, rfl, rfl⟩
theorem jA_43_1376 {xs : List Int} {d : Nat} : jT xs (d + 3) 43 5 0 [(0, (4, 0)), (1, (4, 1)), (2, (1, 1200000))] [] jpA_626 0 0 (fun k v hsN => k = 0 ∧ v = (1, 0) ∧ hsN = jpA_626 ++ []) := by
  refine jT_advK 5 (pcN := 7) (LN := [(0, (4, 0)), (1, (4, 1)), (2, (1, 1200000))]) (stN := [(1, 2400000), (4, 1), (4, 0)]) (hsN := jpA_626) (c1 := 0) (s1 := 0) (c2 := 0) (s2 := 0) (by decide +kernel) ?_ (by omega) (by omega)
  refine jT_fR [0, 1, 2, 3, 4] 5 (y := 44) (pcN := 10) (dC := 2) (bc1 := 0) (bc2 := 0) (c1 := 0) (c2 := 0) (as := [(4, 0), (4, 1), (1, 2400000)]) (asC := [(4, 0), (4, 1), (1, 2400000)]) (LN := [(0, (4, 0)), (1, (4, 1)), (2, (1, 1200000))]) (stN := []) (hsC := jpA_626) (v := (1, 0)) (st2 := [(1, 0)]) (jA_44_1375 (d := 0)) (by rfl) (by rfl) (by decide +kernel) (by rfl) (by rfl) (by omega) (by omega) (by omega) (by omega) rfl ?_
  refine jT_advK 3 (pcN := 13) (LN := [(0, (4, 0)), (1, (4, 1)), (2, (1, 1200000))]) (stN := [(0, 2), (1, 1)]) (hsN := jpA_626) (c1 := 0) (s1 := 0) (c2 := 0) (s2 := 0) (by decide +kernel) ?_ (by omega) (by omega)
  refine jT_fR [] 5 (y := 374) (pcN := 16) (dC := 1) (bc1 := 0) (bc2 := 0) (c1 := 0) (c2 := 0) (as := [(1, 1), (0, 2)]) (asC := [(1, 1), (0, 2)]) (LN := [(0, (4, 0)), (1, (4, 1)), (2, (1, 1200000))]) (stN := []) (hsC := []) (v := (1, 0)) (st2 := [(1, 0)]) (jA_374_178 (d := 0)) (by rfl) (by rfl) (by decide +kernel) (by rfl) (by rfl) (by omega) (by omega) (by omega) (by omega) rfl ?_
  exact jT_ret rfl (by decide) (by show 5 ≤ 5; decide) (by omega) (by omega) ⟨rfl, rfl, rfl⟩
theorem jA_108_1377 {xs : List Int} {d : Nat} : jT xs (d + 4) 108 16 0 [(0, (4, 0)), (1, (4, 1)), (2, (0, 3)), (3, (0, 2))] [] jpA_4325 0 0 (fun k v hsN => k = 0 ∧ v = (1, 0) ∧ hsN = jpA_4325 ++ []) := by
  refine jT_advK 41 (pcN := 40) (LN := [(6, (0, 3)), (4, (1, 1200000)), (0, (4, 0)), (1, (4, 1)), (2, (0, 3)), (3, (0, 2))]) (stN := [(1, 1200000), (4, 1), (4, 2)]) (hsN := jpA_4325) (c1 := 0) (s1 := 0) (c2 := 0) (s2 := 0) (by decide +kernel) ?_ (by omega) (by omega)
  refine jT_fR [2, 1, 14, 15, 13] 16 (y := 43) (pcN := 43) (dC := 3) (bc1 := 0) (bc2 := 0) (c1 := 0) (c2 := 0) (as := [(4, 2), (4, 1), (1, 1200000)]) (asC := [(4, 0), (4, 1), (1, 1200000)]) (LN := [(6, (0, 3)), (4, (1, 1200000)), (0, (4, 0)), (1, (4, 1)), (2, (0, 3)), (3, (0, 2))]) (stN := []) (hsC := jpA_626) (v := (1, 0)) (st2 := [(1, 0)]) (jA_43_1376 (d := 0)) (by rfl) (by rfl) (by decide +kernel) (by rfl) (by rfl) (by omega) (by omega) (by omega) (by omega) rfl ?_
  exact jT_ret rfl (by decide) (by show 16 ≤ 16; decide) (by omega) (by omega) ⟨rfl, rfl, rfl⟩
theorem jA_140_1378 {xs : List Int} {d : Nat} {x1 : Int} (h_x1 : 0 ≤ x1 ∧ x1 ≤ 7) : jT xs (d + 5) 140 21 0 [(0, (4, 0)), (1, (0, x1)), (2, (0, 3)), (3, (0, 2))] [] jpA_3958 0 0 (fun k v hsN => k = 0 ∧ v = (1, 0) ∧ hsN = jpA_3958 ++ []) := by
  refine jT_xaload_n (v := (4, 0)) (pcN := 1) jI_140_0 rfl rfl rfl ?_
  refine jT_xiload_n (v := (0, x1)) (pcN := 2) jI_140_1 rfl rfl rfl ?_
  refine jT_xbipush (k := 8) (pcN := 4) jI_140_2 (by decide) rfl ?_
  refine jT_fR [0] 21 (y := 115) (pcN := 7) (dC := 0) (bc1 := 0) (bc2 := 0) (c1 := 0) (c2 := 0) (as := [(4, 0), (0, x1), (0, 8)]) (asC := [(4, 0), (0, x1), (0, 8)]) (LN := [(0, (4, 0)), (1, (0, x1)), (2, (0, 3)), (3, (0, 2))]) (stN := []) (hsC := [jgh]) (v := (9, 0)) (st2 := []) (jA_115_9 (d := 0) (by omega)) (by rfl) (by rfl) (by decide +kernel) (by rfl) (by rfl) (by omega) (by omega) (by omega) (by omega) rfl ?_
  refine jT_xaload_n (v := (4, 0)) (pcN := 8) jI_140_7 rfl rfl rfl ?_
  refine jT_xiload_n (v := (0, 3)) (pcN := 9) jI_140_8 rfl rfl rfl ?_
  refine jT_xiconst (k := 0) (pcN := 10) jI_140_9 rfl ?_
  refine jT_xbipush (k := 9) (pcN := 12) jI_140_10 (by decide) rfl ?_
  refine jT_fR [0] 21 (y := 116) (pcN := 15) (dC := 0) (bc1 := 0) (bc2 := 0) (c1 := 0) (c2 := 0) (as := [(4, 0), (0, 3), (0, 0), (0, 9)]) (asC := [(4, 0), (0, 3), (0, 0), (0, 9)]) (LN := [(0, (4, 0)), (1, (0, x1)), (2, (0, 3)), (3, (0, 2))]) (stN := []) (hsC := [jgh]) (v := (9, 0)) (st2 := []) (jA_116_1358 (d := 0)) (by rfl) (by rfl) (by decide +kernel) (by rfl) (by rfl) (by omega) (by omega) (by omega) (by omega) rfl ?_
  refine jT_xaload_n (v := (4, 0)) (pcN := 16) jI_140_15 rfl rfl rfl ?_
  refine jT_xiload_n (v := (0, 2)) (pcN := 17) jI_140_16 rfl rfl rfl ?_
  refine jT_xiconst (k := 0) (pcN := 18) jI_140_17 rfl ?_
  refine jT_xiconst (k := 2) (pcN := 19) jI_140_18 rfl ?_
  refine jT_fR [0] 21 (y := 116) (pcN := 22) (dC := 0) (bc1 := 0) (bc2 := 0) (c1 := 0) (c2 := 0) (as := [(4, 0), (0, 2), (0, 0), (0, 2)]) (asC := [(4, 0), (0, 2), (0, 0), (0, 2)]) (LN := [(0, (4, 0)), (1, (0, x1)), (2, (0, 3)), (3, (0, 2))]) (stN := []) (hsC := [jgh]) (v := (9, 0)) (st2 := []) (jA_116_1301 (d := 0)) (by rfl) (by rfl) (by decide +kernel) (by rfl) (by rfl) (by omega) (by omega) (by omega) (by omega) rfl ?_
  refine jT_xaload_n (v := (4, 0)) (pcN := 23) jI_140_22 rfl rfl rfl ?_
  refine jT_xaload_n (v := (4, 0)) (pcN := 24) jI_140_23 rfl rfl rfl ?_
  refine jT_xgetf (a := 0) (t := 1) (ci := 13) (fi := 11) (c := jzA_5) (v := (4, 11)) (pcN := 27) jI_140_24 rfl rfl rfl rfl rfl rfl rfl ?_
  refine jT_xiload_n (v := (0, x1)) (pcN := 28) jI_140_27 rfl rfl rfl ?_
  refine jT_fR [11, 14, 15, 16, 17, 18, 19] 21 (y := 57) (pcN := 31) (dC := 0) (bc1 := 0) (bc2 := 0) (c1 := 0) (c2 := 0) (as := [(4, 11), (0, x1)]) (asC := [(4, 0), (0, x1)]) (LN := [(0, (4, 0)), (1, (0, x1)), (2, (0, 3)), (3, (0, 2))]) (stN := [(4, 0)]) (hsC := jpA_47) (v := (4, 6)) (st2 := [(4, 19), (4, 0)]) (jA_57_108 (d := 0) (by omega)) (by rfl) (by rfl) (by decide +kernel) (by rfl) (by rfl) (by omega) (by omega) (by omega) (by omega) rfl ?_
  refine jT_xiload_n (v := (0, 3)) (pcN := 32) jI_140_31 rfl rfl rfl ?_
  refine jT_xiload_n (v := (0, 2)) (pcN := 33) jI_140_32 rfl rfl rfl ?_
  refine jT_fR [0, 19, 1, 2, 3, 4, 5, 6, 7, 8, 9, 10, 11, 20, 12, 13] 21 (y := 108) (pcN := 36) (dC := 4) (bc1 := 0) (bc2 := 0) (c1 := 0) (c2 := 0) (as := [(4, 0), (4, 19), (0, 3), (0, 2)]) (asC := [(4, 0), (4, 1), (0, 3), (0, 2)]) (LN := [(0, (4, 0)), (1, (0, x1)), (2, (0, 3)), (3, (0, 2))]) (stN := []) (hsC := jpA_4325) (v := (1, 0)) (st2 := [(1, 0)]) (jA_108_1377 (d := 0)) (by rfl) (by rfl) (by decide +kernel) (by rfl) (by rfl) (by omega) (by omega) (by omega) (by omega) rfl ?_
  exact jT_ret rfl (by decide) (by show 21 ≤ 21; decide) (by omega) (by omega) ⟨rfl, rfl, rfl⟩
theorem jA_347_1379 {xs : List Int} {d : Nat} {x1 : Int} (h_x1 : 0 ≤ x1 ∧ x1 ≤ 7) : jT xs (d + 6) 347 22 0 [(0, (4, 0)), (1, (0, x1)), (2, (0, 3)), (3, (0, 2)), (4, (4, 1))] [] jpA_4038 0 0 (fun k v hsN => k = 0 ∧ v = (0, 0) ∧ hsN = jpA_4038 ++ []) := by
  refine jT_xaload (v := (4, 1)) (pcN := 2) jI_347_0 rfl rfl rfl ?_
  refine jT_xiconst (k := 0) (pcN := 3) jI_347_2 rfl ?_
  refine jT_xaload_n (v := (4, 0)) (pcN := 4) jI_347_3 rfl rfl rfl ?_
  refine jT_xiload_n (v := (0, x1)) (pcN := 5) jI_347_4 rfl rfl rfl ?_
  refine jT_xiload_n (v := (0, 3)) (pcN := 6) jI_347_5 rfl rfl rfl ?_
  refine jT_xiload_n (v := (0, 2)) (pcN := 7) jI_347_6 rfl rfl rfl ?_
  refine jT_fR [0, 2, 3, 4, 5, 6, 7, 8, 9, 10, 11, 12, 13, 14, 15, 16, 17, 18, 19, 20, 21] 22 (y := 140) (pcN := 10) (dC := 5) (bc1 := 0) (bc2 := 0) (c1 := 0) (c2 := 0) (as := [(4, 0), (0, x1), (0, 3), (0, 2)]) (asC := [(4, 0), (0, x1), (0, 3), (0, 2)]) (LN := [(0, (4, 0)), (1, (0, x1)), (2, (0, 3)), (3, (0, 2)), (4, (4, 1))]) (stN := [(0, 0), (4, 1)]) (hsC := jpA_3958) (v := (1, 0)) (st2 := [(1, 0), (0, 0), (4, 1)]) (jA_140_1378 (d := 0) (by omega)) (by rfl) (by rfl) (by decide +kernel) (by rfl) (by rfl) (by omega) (by omega) (by omega) (by omega) rfl ?_
  refine jT_adv 1 (pcN := 11) (LN := [(0, (4, 0)), (1, (0, x1)), (2, (0, 3)), (3, (0, 2)), (4, (4, 1))]) (stN := []) (hsN := jpA_4038) (c1 := 0) (s1 := 0) (c2 := 0) (s2 := 0) (by exact rfl) ?_ (by omega) (by omega)
  refine jT_xgoto (pcN := 22) jI_347_11 rfl ?_
  refine jT_xiconst (k := 0) (pcN := 23) jI_347_22 rfl ?_
  exact jT_ret rfl (by decide) (by show 22 ≤ 22; decide) (by omega) (by omega) ⟨rfl, rfl, rfl⟩
theorem jA_265_1380 {xs : List Int} {d : Nat} : jT xs (d + 7) 265 22 0 [(0, (4, 0)), (1, (1, 1000)), (3, (0, 2))] [] jpA_684 10 360 (fun k v hsN => k = 0 ∧ v = (1, 0) ∧ hsN = jpA_684 ++ jpA_3654) := by
  refine jT_advK 4 (pcN := 6) (LN := [(0, (4, 0)), (1, (1, 1000)), (3, (0, 2))]) (stN := [(1, 1200000), (4, 0)]) (hsN := jpA_684) (c1 := 0) (s1 := 0) (c2 := 10) (s2 := 360) (by decide +kernel) ?_ (by omega) (by omega)
  refine jT_fA [0, 1, 2, 3, 4, 5, 6, 7, 8, 9, 10, 11, 12, 13, 14, 15] 22 (y := 218) (pcN := 9) (dC := 0) (bc1 := 1) (bc2 := 6) (c1 := 9) (c2 := 354) (as := [(4, 0), (1, 1200000)]) (asC := [(4, 0), (1, 1200000)]) (LN := [(0, (4, 0)), (1, (1, 1000)), (3, (0, 2))]) (stN := []) (hsC := jpA_147) (ex := [(101, [], [0, 0, 0, 0, 0, 0])]) (v := (4, 16)) (st2 := [(4, 22)]) (hs2 := jpA_3652) (jA_218_1366 (d := 0)) (by rfl) (by rfl) (by decide +kernel) (by rfl) (by rfl) (by omega) (by omega) (by omega) (by omega) rfl (by decide +kernel) ?_
  refine jT_advK 8 (pcN := 23) (LN := [(4, (4, 22)), (0, (4, 0)), (1, (1, 1000)), (3, (0, 2))]) (stN := [(1, 1), (4, 22), (4, 0)]) (hsN := jpA_3652) (c1 := 0) (s1 := 0) (c2 := 9) (s2 := 354) (by decide +kernel) ?_ (by omega) (by omega)
  refine jT_fA [0, 22, 1, 2, 3, 4, 5, 6, 7, 8, 9, 10, 11, 12, 13, 14, 15, 16, 17, 18, 19, 20, 21] 23 (y := 216) (pcN := 26) (dC := 6) (bc1 := 9) (bc2 := 354) (c1 := 0) (c2 := 0) (as := [(4, 0), (4, 22), (1, 1)]) (asC := [(4, 0), (4, 1), (1, 1)]) (LN := [(4, (4, 22)), (0, (4, 0)), (1, (1, 1000)), (3, (0, 2))]) (stN := []) (hsC := jpA_987) (ex := jpA_839) (v := (1, 0)) (st2 := [(1, 0)]) (hs2 := jpA_3653) (jA_216_228 (d := 0)) (by rfl) (by rfl) (by decide +kernel) (by rfl) (by rfl) (by omega) (by omega) (by omega) (by omega) rfl (by decide +kernel) ?_
  exact jT_ret rfl (by decide) (by show 22 ≤ 32; decide) (by omega) (by omega) ⟨rfl, rfl, rfl⟩
theorem jA_263_1381 {xs : List Int} {d : Nat} {x1 : Int} (h_x1 : 0 ≤ x1 ∧ x1 ≤ 7) : jT xs (d + 8) 263 22 0 [(0, (4, 0)), (1, (0, x1)), (2, (0, 3)), (3, (0, 2))] [] jpA_1695 10 360 (fun k v hsN => k = 0 ∧ v = (1, 0) ∧ hsN = jpA_1695 ++ jpA_3654) := by
  refine jT_xaload_n (v := (4, 0)) (pcN := 1) jI_263_0 rfl rfl rfl ?_
  refine jT_xiload_n (v := (0, x1)) (pcN := 2) jI_263_1 rfl rfl rfl ?_
  refine jT_fR [] 22 (y := 188) (pcN := 5) (dC := 1) (bc1 := 0) (bc2 := 0) (c1 := 10) (c2 := 360) (as := [(0, x1)]) (asC := [(0, x1)]) (LN := [(0, (4, 0)), (1, (0, x1)), (2, (0, 3)), (3, (0, 2))]) (stN := [(4, 0)]) (hsC := []) (v := (0, 1)) (st2 := [(0, 1), (4, 0)]) (jA_188_13 (d := 0) (by omega)) (by rfl) (by rfl) (by decide +kernel) (by rfl) (by rfl) (by omega) (by omega) (by omega) (by omega) rfl ?_
  refine jT_fR [0, 1, 2, 3, 4, 5, 6, 7, 8, 9, 10, 11, 12, 13, 14, 15] 22 (y := 190) (pcN := 8) (dC := 1) (bc1 := 0) (bc2 := 0) (c1 := 10) (c2 := 360) (as := [(4, 0), (0, 1)]) (asC := [(4, 0), (0, 1)]) (LN := [(0, (4, 0)), (1, (0, x1)), (2, (0, 3)), (3, (0, 2))]) (stN := []) (hsC := jpA_22) (v := (0, 0)) (st2 := [(0, 0)]) (jA_190_39 (d := 0)) (by rfl) (by rfl) (by decide +kernel) (by rfl) (by rfl) (by omega) (by omega) (by omega) (by omega) rfl ?_
  refine jT_xifF (t := 48) (pcN := 11) jI_263_8 rfl (by decide +kernel) rfl rfl ?_
  refine jT_xaload_n (v := (4, 0)) (pcN := 12) jI_263_11 rfl rfl rfl ?_
  refine jT_xiload_n (v := (0, 3)) (pcN := 13) jI_263_12 rfl rfl rfl ?_
  refine jT_xi2l (x := 3) (z := 3) (pcN := 14) jI_263_13 rfl (by decide +kernel) rfl ?_
  refine jT_xlconst (z := 0) (pcN := 15) jI_263_14 rfl rfl ?_
  refine jT_adv 1 (pcN := 18) (LN := [(0, (4, 0)), (1, (0, x1)), (2, (0, 3)), (3, (0, 2))]) (stN := [(1, 9), (1, 0), (1, 3), (4, 0)]) (hsN := jpA_1695) (c1 := 0) (s1 := 0) (c2 := 10) (s2 := 360) (by exact rfl) ?_ (by omega) (by omega)
  refine jT_fR [] 22 (y := 189) (pcN := 21) (dC := 0) (bc1 := 0) (bc2 := 0) (c1 := 10) (c2 := 360) (as := [(1, 3), (1, 0), (1, 9)]) (asC := [(1, 3), (1, 0), (1, 9)]) (LN := [(0, (4, 0)), (1, (0, x1)), (2, (0, 3)), (3, (0, 2))]) (stN := [(4, 0)]) (hsC := []) (v := (0, 1)) (st2 := [(0, 1), (4, 0)]) (jA_189_1364 (d := 0)) (by rfl) (by rfl) (by decide +kernel) (by rfl) (by rfl) (by omega) (by omega) (by omega) (by omega) rfl ?_
  refine jT_xifF (t := 40) (pcN := 24) jI_263_21 rfl (by decide +kernel) rfl rfl ?_
  refine jT_xiload_n (v := (0, 2)) (pcN := 25) jI_263_24 rfl rfl rfl ?_
  refine jT_xi2l (x := 2) (z := 2) (pcN := 26) jI_263_25 rfl (by decide +kernel) rfl ?_
  refine jT_xlconst (z := 0) (pcN := 27) jI_263_26 rfl rfl ?_
  refine jT_adv 1 (pcN := 30) (LN := [(0, (4, 0)), (1, (0, x1)), (2, (0, 3)), (3, (0, 2))]) (stN := [(1, 2), (1, 0), (1, 2), (4, 0)]) (hsN := jpA_1695) (c1 := 0) (s1 := 0) (c2 := 10) (s2 := 360) (by exact rfl) ?_ (by omega) (by omega)
  refine jT_fR [] 22 (y := 189) (pcN := 33) (dC := 0) (bc1 := 0) (bc2 := 0) (c1 := 10) (c2 := 360) (as := [(1, 2), (1, 0), (1, 2)]) (asC := [(1, 2), (1, 0), (1, 2)]) (LN := [(0, (4, 0)), (1, (0, x1)), (2, (0, 3)), (3, (0, 2))]) (stN := [(4, 0)]) (hsC := []) (v := (0, 1)) (st2 := [(0, 1), (4, 0)]) (jA_189_1305 (d := 0)) (by rfl) (by rfl) (by decide +kernel) (by rfl) (by rfl) (by omega) (by omega) (by omega) (by omega) rfl ?_
  refine jT_xifF (t := 40) (pcN := 36) jI_263_33 rfl (by decide +kernel) rfl rfl ?_
  refine jT_xiconst (k := 1) (pcN := 37) jI_263_36 rfl ?_
  refine jT_xgoto (pcN := 41) jI_263_37 rfl ?_
  refine jT_xiconst (k := 2) (pcN := 42) jI_263_41 rfl ?_
  refine jT_fR [0] 22 (y := 191) (pcN := 45) (dC := 0) (bc1 := 0) (bc2 := 0) (c1 := 10) (c2 := 360) (as := [(4, 0), (0, 1), (0, 2)]) (asC := [(4, 0), (0, 1), (0, 2)]) (LN := [(0, (4, 0)), (1, (0, x1)), (2, (0, 3)), (3, (0, 2))]) (stN := []) (hsC := [jgh]) (v := (0, 0)) (st2 := [(0, 0)]) (jA_191_49 (d := 0)) (by rfl) (by rfl) (by decide +kernel) (by rfl) (by rfl) (by omega) (by omega) (by omega) (by omega) rfl ?_
  refine jT_xifT (pcN := 50) jI_263_45 rfl (by decide +kernel) rfl ?_
  refine jT_xaload_n (v := (4, 0)) (pcN := 51) jI_263_50 rfl rfl rfl ?_
  refine jT_xiload_n (v := (0, x1)) (pcN := 52) jI_263_51 rfl rfl rfl ?_
  refine jT_fR [0, 1, 2, 3, 4, 5, 6, 7, 8, 9, 10, 11, 12, 13, 14, 15] 22 (y := 202) (pcN := 55) (dC := 1) (bc1 := 0) (bc2 := 0) (c1 := 10) (c2 := 360) (as := [(4, 0), (0, x1)]) (asC := [(4, 0), (0, x1)]) (LN := [(0, (4, 0)), (1, (0, x1)), (2, (0, 3)), (3, (0, 2))]) (stN := []) (hsC := jpA_130) (v := (9, 0)) (st2 := []) (jA_202_115 (d := 0) (by omega)) (by rfl) (by rfl) (by decide +kernel) (by rfl) (by rfl) (by omega) (by omega) (by omega) (by omega) rfl ?_
  refine jT_xaload_n (v := (4, 0)) (pcN := 56) jI_263_55 rfl rfl rfl ?_
  refine jT_xiload_n (v := (0, 3)) (pcN := 57) jI_263_56 rfl rfl rfl ?_
  refine jT_fR [] 22 (y := 264) (pcN := 60) (dC := 0) (bc1 := 0) (bc2 := 0) (c1 := 10) (c2 := 360) (as := [(0, 3)]) (asC := [(0, 3)]) (LN := [(0, (4, 0)), (1, (0, x1)), (2, (0, 3)), (3, (0, 2))]) (stN := [(4, 0)]) (hsC := []) (v := (1, 1000)) (st2 := [(1, 1000), (4, 0)]) (jA_264_1365 (d := 0)) (by rfl) (by rfl) (by decide +kernel) (by rfl) (by rfl) (by omega) (by omega) (by omega) (by omega) rfl ?_
  refine jT_xiload_n (v := (0, 2)) (pcN := 61) jI_263_60 rfl rfl rfl ?_
  refine jT_fA [0, 1, 2, 3, 4, 5, 6, 7, 8, 9, 10, 11, 12, 13, 14, 15, 16, 17, 18, 19, 20, 21] 22 (y := 265) (pcN := 64) (dC := 7) (bc1 := 10) (bc2 := 360) (c1 := 0) (c2 := 0) (as := [(4, 0), (1, 1000), (0, 2)]) (asC := [(4, 0), (1, 1000), (0, 2)]) (LN := [(0, (4, 0)), (1, (0, x1)), (2, (0, 3)), (3, (0, 2))]) (stN := []) (hsC := jpA_684) (ex := jpA_3654) (v := (1, 0)) (st2 := [(1, 0)]) (hs2 := jpA_3655) (jA_265_1380 (d := 0)) (by rfl) (by rfl) (by decide +kernel) (by rfl) (by rfl) (by omega) (by omega) (by omega) (by omega) rfl (by decide +kernel) ?_
  exact jT_ret rfl (by decide) (by show 22 ≤ 32; decide) (by omega) (by omega) ⟨rfl, rfl, rfl⟩
theorem jA_116_1382 {xs : List Int} {d : Nat} {x2 : Int} (h_x2 : 4 ≤ x2 ∧ x2 ≤ 9) : jT xs d 116 1 0 [(0, (4, 0)), (1, (0, x2)), (2, (0, 0)), (3, (0, 9))] [] [jgh] 0 0 (fun k v hsN => k = 0 ∧ v = (9, 0) ∧ hsN = [jgh] ++ []) := by
  refine jT_xiload_n (v := (0, x2)) (pcN := 1) jI_116_0 rfl rfl rfl ?_
  refine jT_xiload_n (v := (0, 0)) (pcN := 2) jI_116_1 rfl rfl rfl ?_
  refine jT_icF (a := x2) (b := 0) (t := 10) (by rfl) (by rfl) (by rfl) (jw_idd (by omega) (by omega)) (jw_idd (by omega) (by omega)) (by simp only [jcP] <;> omega) ?_
  refine jT_xiload_n (v := (0, x2)) (pcN := 6) jI_116_5 rfl rfl rfl ?_
  refine jT_xiload_n (v := (0, 9)) (pcN := 7) jI_116_6 rfl rfl rfl ?_
  refine jT_icT (a := x2) (b := 9) (t := 21) (by rfl) (by rfl) (by rfl) (jw_idd (by omega) (by omega)) (jw_idd (by omega) (by omega)) (by simp only [jcP] <;> omega) ?_
  exact jT_ret rfl (by decide) (by show 1 ≤ 1; decide) (by omega) (by omega) ⟨rfl, rfl, rfl⟩
theorem jA_116_1383 {xs : List Int} {d : Nat} : jT xs d 116 1 0 [(0, (4, 0)), (1, (0, 4)), (2, (0, 0)), (3, (0, 9))] [] [jgh] 0 0 (fun k v hsN => k = 0 ∧ v = (9, 0) ∧ hsN = [jgh] ++ []) := by
  refine jT_advK 6 (pcN := 21) (LN := [(0, (4, 0)), (1, (0, 4)), (2, (0, 0)), (3, (0, 9))]) (stN := []) (hsN := [jgh]) (c1 := 0) (s1 := 0) (c2 := 0) (s2 := 0) (by decide +kernel) ?_ (by omega) (by omega)
  exact jT_ret rfl (by decide) (by show 1 ≤ 1; decide) (by omega) (by omega) ⟨rfl, rfl, rfl⟩
theorem jA_45_1384 {xs : List Int} {d : Nat} : jT xs (d + 1) 45 4 0 [(0, (4, 0)), (1, (4, 1)), (2, (1, 1)), (4, (1, 12000000))] [] jpA_625 0 0 (fun k v hsN => k = 0 ∧ v = (1, 0) ∧ hsN = jpA_625 ++ []) := by
  refine jT_advK 10 (pcN := 17) (LN := [(0, (4, 0)), (1, (4, 1)), (2, (1, 1)), (4, (1, 12000000))]) (stN := [(4, 1), (4, 0)]) (hsN := jpA_625) (c1 := 0) (s1 := 0) (c2 := 0) (s2 := 0) (by decide +kernel) ?_ (by omega) (by omega)
  refine jT_fR [0, 1] 4 (y := 39) (pcN := 20) (dC := 0) (bc1 := 0) (bc2 := 0) (c1 := 0) (c2 := 0) (as := [(4, 0), (4, 1)]) (asC := [(4, 0), (4, 1)]) (LN := [(0, (4, 0)), (1, (4, 1)), (2, (1, 1)), (4, (1, 12000000))]) (stN := []) (hsC := [jgh, (101, [], [0, 0, 0, 0, 0, 0])]) (v := (1, 0)) (st2 := [(1, 0)]) (jA_39_144 (d := 0)) (by rfl) (by rfl) (by decide +kernel) (by rfl) (by rfl) (by omega) (by omega) (by omega) (by omega) rfl ?_
  refine jT_advK 11 (pcN := 36) (LN := [(6, (1, 0)), (0, (4, 0)), (1, (4, 1)), (2, (1, 1)), (4, (1, 12000000))]) (stN := [(1, 1), (1, 0)]) (hsN := jpA_625) (c1 := 0) (s1 := 0) (c2 := 0) (s2 := 0) (by decide +kernel) ?_ (by omega) (by omega)
  refine jT_fR [] 4 (y := 373) (pcN := 39) (dC := 0) (bc1 := 0) (bc2 := 0) (c1 := 0) (c2 := 0) (as := [(1, 0), (1, 1)]) (asC := [(1, 0), (1, 1)]) (LN := [(6, (1, 0)), (0, (4, 0)), (1, (4, 1)), (2, (1, 1)), (4, (1, 12000000))]) (stN := []) (hsC := []) (v := (1, 0)) (st2 := [(1, 0)]) (jA_373_145 (d := 0)) (by rfl) (by rfl) (by decide +kernel) (by rfl) (by rfl) (by omega) (by omega) (by omega) (by omega) rfl ?_
  exact jT_ret rfl (by decide) (by show 4 ≤ 4; decide) (by omega) (by omega) ⟨rfl, rfl, rfl⟩
theorem jA_44_1385 {xs : List Int} {d : Nat} : jT xs (d + 2) 44 5 0 [(0, (4, 0)), (1, (4, 1)), (2, (1, 12000000))] [] jpA_626 0 0 (fun k v hsN => k = 0 ∧ v = (1, 0) ∧ hsN = jpA_626 ++ []) := by
  refine jT_advK 6 (pcN := 10) (LN := [(0, (4, 0)), (1, (4, 1)), (2, (1, 12000000))]) (stN := [(1, 12000000), (1, 1), (4, 4), (4, 0)]) (hsN := jpA_626) (c1 := 0) (s1 := 0) (c2 := 0) (s2 := 0) (by decide +kernel) ?_ (by omega) (by omega)
  refine jT_fR [0, 4, 2, 3] 5 (y := 45) (pcN := 13) (dC := 1) (bc1 := 0) (bc2 := 0) (c1 := 0) (c2 := 0) (as := [(4, 0), (4, 4), (1, 1), (1, 12000000)]) (asC := [(4, 0), (4, 1), (1, 1), (1, 12000000)]) (LN := [(0, (4, 0)), (1, (4, 1)), (2, (1, 12000000))]) (stN := []) (hsC := jpA_625) (v := (1, 0)) (st2 := [(1, 0)]) (jA_45_1384 (d := 0)) (by rfl) (by rfl) (by decide +kernel) (by rfl) (by rfl) (by omega) (by omega) (by omega) (by omega) rfl ?_
  exact jT_ret rfl (by decide) (by show 5 ≤ 5; decide) (by omega) (by omega) ⟨rfl, rfl, rfl⟩
theorem jA_108_1386 {xs : List Int} {d : Nat} : jT xs (d + 3) 108 16 0 [(0, (4, 0)), (1, (4, 1)), (2, (0, 4)), (3, (0, 0))] [] jpA_4325 0 0 (fun k v hsN => k = 0 ∧ v = (1, 0) ∧ hsN = jpA_4325 ++ []) := by
  refine jT_advK 52 (pcN := 55) (LN := [(6, (0, 4)), (4, (1, 12000000)), (0, (4, 0)), (1, (4, 1)), (2, (0, 4)), (3, (0, 0))]) (stN := [(1, 12000000), (4, 1), (4, 2)]) (hsN := jpA_4325) (c1 := 0) (s1 := 0) (c2 := 0) (s2 := 0) (by decide +kernel) ?_ (by omega) (by omega)
  refine jT_fR [2, 1, 14, 15, 13] 16 (y := 44) (pcN := 58) (dC := 2) (bc1 := 0) (bc2 := 0) (c1 := 0) (c2 := 0) (as := [(4, 2), (4, 1), (1, 12000000)]) (asC := [(4, 0), (4, 1), (1, 12000000)]) (LN := [(6, (0, 4)), (4, (1, 12000000)), (0, (4, 0)), (1, (4, 1)), (2, (0, 4)), (3, (0, 0))]) (stN := []) (hsC := jpA_626) (v := (1, 0)) (st2 := [(1, 0)]) (jA_44_1385 (d := 0)) (by rfl) (by rfl) (by decide +kernel) (by rfl) (by rfl) (by omega) (by omega) (by omega) (by omega) rfl ?_
  exact jT_ret rfl (by decide) (by show 16 ≤ 16; decide) (by omega) (by omega) ⟨rfl, rfl, rfl⟩
theorem jA_140_1387 {xs : List Int} {d : Nat} {x1 : Int} (h_x1 : 0 ≤ x1 ∧ x1 ≤ 7) : jT xs (d + 4) 140 21 0 [(0, (4, 0)), (1, (0, x1)), (2, (0, 4)), (3, (0, 0))] [] jpA_3958 0 0 (fun k v hsN => k = 0 ∧ v = (1, 0) ∧ hsN = jpA_3958 ++ []) := by
  refine jT_xaload_n (v := (4, 0)) (pcN := 1) jI_140_0 rfl rfl rfl ?_
  refine jT_xiload_n (v := (0, x1)) (pcN := 2) jI_140_1 rfl rfl rfl ?_
  refine jT_xbipush (k := 8) (pcN := 4) jI_140_2 (by decide) rfl ?_
  refine jT_fR [0] 21 (y := 115) (pcN := 7) (dC := 0) (bc1 := 0) (bc2 := 0) (c1 := 0) (c2 := 0) (as := [(4, 0), (0, x1), (0, 8)]) (asC := [(4, 0), (0, x1), (0, 8)]) (LN := [(0, (4, 0)), (1, (0, x1)), (2, (0, 4)), (3, (0, 0))]) (stN := []) (hsC := [jgh]) (v := (9, 0)) (st2 := []) (jA_115_9 (d := 0) (by omega)) (by rfl) (by rfl) (by decide +kernel) (by rfl) (by rfl) (by omega) (by omega) (by omega) (by omega) rfl ?_
  refine jT_xaload_n (v := (4, 0)) (pcN := 8) jI_140_7 rfl rfl rfl ?_
  refine jT_xiload_n (v := (0, 4)) (pcN := 9) jI_140_8 rfl rfl rfl ?_
  refine jT_xiconst (k := 0) (pcN := 10) jI_140_9 rfl ?_
  refine jT_xbipush (k := 9) (pcN := 12) jI_140_10 (by decide) rfl ?_
  refine jT_fR [0] 21 (y := 116) (pcN := 15) (dC := 0) (bc1 := 0) (bc2 := 0) (c1 := 0) (c2 := 0) (as := [(4, 0), (0, 4), (0, 0), (0, 9)]) (asC := [(4, 0), (0, 4), (0, 0), (0, 9)]) (LN := [(0, (4, 0)), (1, (0, x1)), (2, (0, 4)), (3, (0, 0))]) (stN := []) (hsC := [jgh]) (v := (9, 0)) (st2 := []) (jA_116_1383 (d := 0)) (by rfl) (by rfl) (by decide +kernel) (by rfl) (by rfl) (by omega) (by omega) (by omega) (by omega) rfl ?_
  refine jT_xaload_n (v := (4, 0)) (pcN := 16) jI_140_15 rfl rfl rfl ?_
  refine jT_xiload_n (v := (0, 0)) (pcN := 17) jI_140_16 rfl rfl rfl ?_
  refine jT_xiconst (k := 0) (pcN := 18) jI_140_17 rfl ?_
  refine jT_xiconst (k := 2) (pcN := 19) jI_140_18 rfl ?_
  refine jT_fR [0] 21 (y := 116) (pcN := 22) (dC := 0) (bc1 := 0) (bc2 := 0) (c1 := 0) (c2 := 0) (as := [(4, 0), (0, 0), (0, 0), (0, 2)]) (asC := [(4, 0), (0, 0), (0, 0), (0, 2)]) (LN := [(0, (4, 0)), (1, (0, x1)), (2, (0, 4)), (3, (0, 0))]) (stN := []) (hsC := [jgh]) (v := (9, 0)) (st2 := []) (jA_116_1279 (d := 0)) (by rfl) (by rfl) (by decide +kernel) (by rfl) (by rfl) (by omega) (by omega) (by omega) (by omega) rfl ?_
  refine jT_xaload_n (v := (4, 0)) (pcN := 23) jI_140_22 rfl rfl rfl ?_
  refine jT_xaload_n (v := (4, 0)) (pcN := 24) jI_140_23 rfl rfl rfl ?_
  refine jT_xgetf (a := 0) (t := 1) (ci := 13) (fi := 11) (c := jzA_5) (v := (4, 11)) (pcN := 27) jI_140_24 rfl rfl rfl rfl rfl rfl rfl ?_
  refine jT_xiload_n (v := (0, x1)) (pcN := 28) jI_140_27 rfl rfl rfl ?_
  refine jT_fR [11, 14, 15, 16, 17, 18, 19] 21 (y := 57) (pcN := 31) (dC := 0) (bc1 := 0) (bc2 := 0) (c1 := 0) (c2 := 0) (as := [(4, 11), (0, x1)]) (asC := [(4, 0), (0, x1)]) (LN := [(0, (4, 0)), (1, (0, x1)), (2, (0, 4)), (3, (0, 0))]) (stN := [(4, 0)]) (hsC := jpA_47) (v := (4, 6)) (st2 := [(4, 19), (4, 0)]) (jA_57_108 (d := 0) (by omega)) (by rfl) (by rfl) (by decide +kernel) (by rfl) (by rfl) (by omega) (by omega) (by omega) (by omega) rfl ?_
  refine jT_xiload_n (v := (0, 4)) (pcN := 32) jI_140_31 rfl rfl rfl ?_
  refine jT_xiload_n (v := (0, 0)) (pcN := 33) jI_140_32 rfl rfl rfl ?_
  refine jT_fR [0, 19, 1, 2, 3, 4, 5, 6, 7, 8, 9, 10, 11, 20, 12, 13] 21 (y := 108) (pcN := 36) (dC := 3) (bc1 := 0) (bc2 := 0) (c1 := 0) (c2 := 0) (as := [(4, 0), (4, 19), (0, 4), (0, 0)]) (asC := [(4, 0), (4, 1), (0, 4), (0, 0)]) (LN := [(0, (4, 0)), (1, (0, x1)), (2, (0, 4)), (3, (0, 0))]) (stN := []) (hsC := jpA_4325) (v := (1, 0)) (st2 := [(1, 0)]) (jA_108_1386 (d := 0)) (by rfl) (by rfl) (by decide +kernel) (by rfl) (by rfl) (by omega) (by omega) (by omega) (by omega) rfl ?_
  exact jT_ret rfl (by decide) (by show 21 ≤ 21; decide) (by omega) (by omega) ⟨rfl, rfl, rfl⟩
theorem jA_347_1388 {xs : List Int} {d : Nat} {x1 : Int} (h_x1 : 0 ≤ x1 ∧ x1 ≤ 7) : jT xs (d + 5) 347 22 0 [(0, (4, 0)), (1, (0, x1)), (2, (0, 4)), (3, (0, 0)), (4, (4, 1))] [] jpA_4038 0 0 (fun k v hsN => k = 0 ∧ v = (0, 0) ∧ hsN = jpA_4038 ++ []) := by
  refine jT_xaload (v := (4, 1)) (pcN := 2) jI_347_0 rfl rfl rfl ?_
  refine jT_xiconst (k := 0) (pcN := 3) jI_347_2 rfl ?_
  refine jT_xaload_n (v := (4, 0)) (pcN := 4) jI_347_3 rfl rfl rfl ?_
  refine jT_xiload_n (v := (0, x1)) (pcN := 5) jI_347_4 rfl rfl rfl ?_
  refine jT_xiload_n (v := (0, 4)) (pcN := 6) jI_347_5 rfl rfl rfl ?_
  refine jT_xiload_n (v := (0, 0)) (pcN := 7) jI_347_6 rfl rfl rfl ?_
  refine jT_fR [0, 2, 3, 4, 5, 6, 7, 8, 9, 10, 11, 12, 13, 14, 15, 16, 17, 18, 19, 20, 21] 22 (y := 140) (pcN := 10) (dC := 4) (bc1 := 0) (bc2 := 0) (c1 := 0) (c2 := 0) (as := [(4, 0), (0, x1), (0, 4), (0, 0)]) (asC := [(4, 0), (0, x1), (0, 4), (0, 0)]) (LN := [(0, (4, 0)), (1, (0, x1)), (2, (0, 4)), (3, (0, 0)), (4, (4, 1))]) (stN := [(0, 0), (4, 1)]) (hsC := jpA_3958) (v := (1, 0)) (st2 := [(1, 0), (0, 0), (4, 1)]) (jA_140_1387 (d := 0) (by omega)) (by rfl) (by rfl) (by decide +kernel) (by rfl) (by rfl) (by omega) (by omega) (by omega) (by omega) rfl ?_
  refine jT_adv 1 (pcN := 11) (LN := [(0, (4, 0)), (1, (0, x1)), (2, (0, 4)), (3, (0, 0)), (4, (4, 1))]) (stN := []) (hsN := jpA_4038) (c1 := 0) (s1 := 0) (c2 := 0) (s2 := 0) (by exact rfl) ?_ (by omega) (by omega)
  refine jT_xgoto (pcN := 22) jI_347_11 rfl ?_
  refine jT_xiconst (k := 0) (pcN := 23) jI_347_22 rfl ?_
  exact jT_ret rfl (by decide) (by show 22 ≤ 22; decide) (by omega) (by omega) ⟨rfl, rfl, rfl⟩
theorem jA_189_1389 {xs : List Int} {d : Nat} : jT xs d 189 0 0 [(0, (1, 4)), (2, (1, 0)), (4, (1, 9))] [] [] 0 0 (fun k v hsN => k = 0 ∧ v = (0, 1) ∧ hsN = [] ++ []) := by
  refine jT_advK 10 (pcN := 18) (LN := [(0, (1, 4)), (2, (1, 0)), (4, (1, 9))]) (stN := [(0, 1)]) (hsN := []) (c1 := 0) (s1 := 0) (c2 := 0) (s2 := 0) (by decide +kernel) ?_ (by omega) (by omega)
  exact jT_ret rfl (by decide) (by show 0 ≤ 0; decide) (by omega) (by omega) ⟨rfl, rfl, rfl⟩
theorem jA_264_1390 {xs : List Int} {d : Nat} : jT xs d 264 0 0 [(0, (0, 4))] [] [] 0 0 (fun k v hsN => k = 0 ∧ v = (1, 10000) ∧ hsN = [] ++ []) := by
  refine jT_advK 44 (pcN := 22) (LN := [(3, (0, 4)), (1, (1, 10000)), (0, (0, 4))]) (stN := [(1, 10000)]) (hsN := []) (c1 := 0) (s1 := 0) (c2 := 0) (s2 := 0) (by decide +kernel) ?_ (by omega) (by omega)
  exact jT_ret rfl (by decide) (by show 0 ≤ 0; decide) (by omega) (by omega) ⟨rfl, rfl, rfl⟩
theorem jA_218_1391 {xs : List Int} {d : Nat} : jT xs d 218 16 0 [(0, (4, 0)), (1, (1, 12000000))] [] jpA_147 1 6 (fun k v hsN => k = 0 ∧ v = (4, 16) ∧ hsN = jpA_147 ++ [(101, [], [0, 0, 0, 0, 0, 0])]) := by
  refine jT_advK 93 (pcN := 35) (LN := [(4, (0, 6)), (3, (4, 16)), (0, (4, 0)), (1, (1, 12000000))]) (stN := [(4, 16)]) (hsN := jpA_984) (c1 := 1) (s1 := 6) (c2 := 0) (s2 := 0) (by decide +kernel) ?_ (by omega) (by omega)
  exact jT_ret rfl (by decide) (by show 16 ≤ 17; decide) (by omega) (by omega) ⟨rfl, rfl, rfl⟩
theorem jA_265_1392 {xs : List Int} {d : Nat} : jT xs (d + 6) 265 22 0 [(0, (4, 0)), (1, (1, 10000)), (3, (0, 0))] [] jpA_684 6 186 (fun k v hsN => k = 0 ∧ v = (1, 0) ∧ hsN = jpA_684 ++ jpA_4341) := by
  refine jT_advK 4 (pcN := 6) (LN := [(0, (4, 0)), (1, (1, 10000)), (3, (0, 0))]) (stN := [(1, 12000000), (4, 0)]) (hsN := jpA_684) (c1 := 0) (s1 := 0) (c2 := 6) (s2 := 186) (by decide +kernel) ?_ (by omega) (by omega)
  refine jT_fA [0, 1, 2, 3, 4, 5, 6, 7, 8, 9, 10, 11, 12, 13, 14, 15] 22 (y := 218) (pcN := 9) (dC := 0) (bc1 := 1) (bc2 := 6) (c1 := 5) (c2 := 180) (as := [(4, 0), (1, 12000000)]) (asC := [(4, 0), (1, 12000000)]) (LN := [(0, (4, 0)), (1, (1, 10000)), (3, (0, 0))]) (stN := []) (hsC := jpA_147) (ex := [(101, [], [0, 0, 0, 0, 0, 0])]) (v := (4, 16)) (st2 := [(4, 22)]) (hs2 := jpA_3652) (jA_218_1391 (d := 0)) (by rfl) (by rfl) (by decide +kernel) (by rfl) (by rfl) (by omega) (by omega) (by omega) (by omega) rfl (by decide +kernel) ?_
  refine jT_advK 8 (pcN := 34) (LN := [(4, (4, 22)), (0, (4, 0)), (1, (1, 10000)), (3, (0, 0))]) (stN := [(1, 1), (4, 22), (4, 0)]) (hsN := jpA_3652) (c1 := 0) (s1 := 0) (c2 := 5) (s2 := 180) (by decide +kernel) ?_ (by omega) (by omega)
  refine jT_fA [0, 22, 1, 2, 3, 4, 5, 6, 7, 8, 9, 10, 11, 12, 13, 14, 15, 16, 17, 18, 19, 20, 21] 23 (y := 210) (pcN := 37) (dC := 5) (bc1 := 5) (bc2 := 180) (c1 := 0) (c2 := 0) (as := [(4, 0), (4, 22), (1, 1)]) (asC := [(4, 0), (4, 1), (1, 1)]) (LN := [(4, (4, 22)), (0, (4, 0)), (1, (1, 10000)), (3, (0, 0))]) (stN := []) (hsC := jpA_987) (ex := jpA_683) (v := (1, 0)) (st2 := [(1, 0)]) (hs2 := jpA_4340) (jA_210_1290 (d := 0)) (by rfl) (by rfl) (by decide +kernel) (by rfl) (by rfl) (by omega) (by omega) (by omega) (by omega) rfl (by decide +kernel) ?_
  refine jT_advK 5 (pcN := 68) (LN := [(5, (1, 0)), (4, (4, 22)), (0, (4, 0)), (1, (1, 10000)), (3, (0, 0))]) (stN := [(1, 0)]) (hsN := jpA_4340) (c1 := 0) (s1 := 0) (c2 := 0) (s2 := 0) (by decide +kernel) ?_ (by omega) (by omega)
  exact jT_ret rfl (by decide) (by show 22 ≤ 28; decide) (by omega) (by omega) ⟨rfl, rfl, rfl⟩
theorem jA_263_1393 {xs : List Int} {d : Nat} {x1 : Int} (h_x1 : 0 ≤ x1 ∧ x1 ≤ 7) : jT xs (d + 7) 263 22 0 [(0, (4, 0)), (1, (0, x1)), (2, (0, 4)), (3, (0, 0))] [] jpA_1695 6 186 (fun k v hsN => k = 0 ∧ v = (1, 0) ∧ hsN = jpA_1695 ++ jpA_4341) := by
  refine jT_xaload_n (v := (4, 0)) (pcN := 1) jI_263_0 rfl rfl rfl ?_
  refine jT_xiload_n (v := (0, x1)) (pcN := 2) jI_263_1 rfl rfl rfl ?_
  refine jT_fR [] 22 (y := 188) (pcN := 5) (dC := 1) (bc1 := 0) (bc2 := 0) (c1 := 6) (c2 := 186) (as := [(0, x1)]) (asC := [(0, x1)]) (LN := [(0, (4, 0)), (1, (0, x1)), (2, (0, 4)), (3, (0, 0))]) (stN := [(4, 0)]) (hsC := []) (v := (0, 1)) (st2 := [(0, 1), (4, 0)]) (jA_188_13 (d := 0) (by omega)) (by rfl) (by rfl) (by decide +kernel) (by rfl) (by rfl) (by omega) (by omega) (by omega) (by omega) rfl ?_
  refine jT_fR [0, 1, 2, 3, 4, 5, 6, 7, 8, 9, 10, 11, 12, 13, 14, 15] 22 (y := 190) (pcN := 8) (dC := 1) (bc1 := 0) (bc2 := 0) (c1 := 6) (c2 := 186) (as := [(4, 0), (0, 1)]) (asC := [(4, 0), (0, 1)]) (LN := [(0, (4, 0)), (1, (0, x1)), (2, (0, 4)), (3, (0, 0))]) (stN := []) (hsC := jpA_22) (v := (0, 0)) (st2 := [(0, 0)]) (jA_190_39 (d := 0)) (by rfl) (by rfl) (by decide +kernel) (by rfl) (by rfl) (by omega) (by omega) (by omega) (by omega) rfl ?_
  refine jT_xifF (t := 48) (pcN := 11) jI_263_8 rfl (by decide +kernel) rfl rfl ?_
  refine jT_xaload_n (v := (4, 0)) (pcN := 12) jI_263_11 rfl rfl rfl ?_
  refine jT_xiload_n (v := (0, 4)) (pcN := 13) jI_263_12 rfl rfl rfl ?_
  refine jT_xi2l (x := 4) (z := 4) (pcN := 14) jI_263_13 rfl (by decide +kernel) rfl ?_
  refine jT_xlconst (z := 0) (pcN := 15) jI_263_14 rfl rfl ?_
  refine jT_adv 1 (pcN := 18) (LN := [(0, (4, 0)), (1, (0, x1)), (2, (0, 4)), (3, (0, 0))]) (stN := [(1, 9), (1, 0), (1, 4), (4, 0)]) (hsN := jpA_1695) (c1 := 0) (s1 := 0) (c2 := 6) (s2 := 186) (by exact rfl) ?_ (by omega) (by omega)
  refine jT_fR [] 22 (y := 189) (pcN := 21) (dC := 0) (bc1 := 0) (bc2 := 0) (c1 := 6) (c2 := 186) (as := [(1, 4), (1, 0), (1, 9)]) (asC := [(1, 4), (1, 0), (1, 9)]) (LN := [(0, (4, 0)), (1, (0, x1)), (2, (0, 4)), (3, (0, 0))]) (stN := [(4, 0)]) (hsC := []) (v := (0, 1)) (st2 := [(0, 1), (4, 0)]) (jA_189_1389 (d := 0)) (by rfl) (by rfl) (by decide +kernel) (by rfl) (by rfl) (by omega) (by omega) (by omega) (by omega) rfl ?_
  refine jT_xifF (t := 40) (pcN := 24) jI_263_21 rfl (by decide +kernel) rfl rfl ?_
  refine jT_xiload_n (v := (0, 0)) (pcN := 25) jI_263_24 rfl rfl rfl ?_
  refine jT_xi2l (x := 0) (z := 0) (pcN := 26) jI_263_25 rfl (by decide +kernel) rfl ?_
  refine jT_xlconst (z := 0) (pcN := 27) jI_263_26 rfl rfl ?_
  refine jT_adv 1 (pcN := 30) (LN := [(0, (4, 0)), (1, (0, x1)), (2, (0, 4)), (3, (0, 0))]) (stN := [(1, 2), (1, 0), (1, 0), (4, 0)]) (hsN := jpA_1695) (c1 := 0) (s1 := 0) (c2 := 6) (s2 := 186) (by exact rfl) ?_ (by omega) (by omega)
  refine jT_fR [] 22 (y := 189) (pcN := 33) (dC := 0) (bc1 := 0) (bc2 := 0) (c1 := 6) (c2 := 186) (as := [(1, 0), (1, 0), (1, 2)]) (asC := [(1, 0), (1, 0), (1, 2)]) (LN := [(0, (4, 0)), (1, (0, x1)), (2, (0, 4)), (3, (0, 0))]) (stN := [(4, 0)]) (hsC := []) (v := (0, 1)) (st2 := [(0, 1), (4, 0)]) (jA_189_1286 (d := 0)) (by rfl) (by rfl) (by decide +kernel) (by rfl) (by rfl) (by omega) (by omega) (by omega) (by omega) rfl ?_
  refine jT_xifF (t := 40) (pcN := 36) jI_263_33 rfl (by decide +kernel) rfl rfl ?_
  refine jT_xiconst (k := 1) (pcN := 37) jI_263_36 rfl ?_
  refine jT_xgoto (pcN := 41) jI_263_37 rfl ?_
  refine jT_xiconst (k := 2) (pcN := 42) jI_263_41 rfl ?_
  refine jT_fR [0] 22 (y := 191) (pcN := 45) (dC := 0) (bc1 := 0) (bc2 := 0) (c1 := 6) (c2 := 186) (as := [(4, 0), (0, 1), (0, 2)]) (asC := [(4, 0), (0, 1), (0, 2)]) (LN := [(0, (4, 0)), (1, (0, x1)), (2, (0, 4)), (3, (0, 0))]) (stN := []) (hsC := [jgh]) (v := (0, 0)) (st2 := [(0, 0)]) (jA_191_49 (d := 0)) (by rfl) (by rfl) (by decide +kernel) (by rfl) (by rfl) (by omega) (by omega) (by omega) (by omega) rfl ?_
  refine jT_xifT (pcN := 50) jI_263_45 rfl (by decide +kernel) rfl ?_
  refine jT_xaload_n (v := (4, 0)) (pcN := 51) jI_263_50 rfl rfl rfl ?_
  refine jT_xiload_n (v := (0, x1)) (pcN := 52) jI_263_51 rfl rfl rfl ?_
  refine jT_fR [0, 1, 2, 3, 4, 5, 6, 7, 8, 9, 10, 11, 12, 13, 14, 15] 22 (y := 202) (pcN := 55) (dC := 1) (bc1 := 0) (bc2 := 0) (c1 := 6) (c2 := 186) (as := [(4, 0), (0, x1)]) (asC := [(4, 0), (0, x1)]) (LN := [(0, (4, 0)), (1, (0, x1)), (2, (0, 4)), (3, (0, 0))]) (stN := []) (hsC := jpA_130) (v := (9, 0)) (st2 := []) (jA_202_115 (d := 0) (by omega)) (by rfl) (by rfl) (by decide +kernel) (by rfl) (by rfl) (by omega) (by omega) (by omega) (by omega) rfl ?_
  refine jT_xaload_n (v := (4, 0)) (pcN := 56) jI_263_55 rfl rfl rfl ?_
  refine jT_xiload_n (v := (0, 4)) (pcN := 57) jI_263_56 rfl rfl rfl ?_
  refine jT_fR [] 22 (y := 264) (pcN := 60) (dC := 0) (bc1 := 0) (bc2 := 0) (c1 := 6) (c2 := 186) (as := [(0, 4)]) (asC := [(0, 4)]) (LN := [(0, (4, 0)), (1, (0, x1)), (2, (0, 4)), (3, (0, 0))]) (stN := [(4, 0)]) (hsC := []) (v := (1, 10000)) (st2 := [(1, 10000), (4, 0)]) (jA_264_1390 (d := 0)) (by rfl) (by rfl) (by decide +kernel) (by rfl) (by rfl) (by omega) (by omega) (by omega) (by omega) rfl ?_
  refine jT_xiload_n (v := (0, 0)) (pcN := 61) jI_263_60 rfl rfl rfl ?_
  refine jT_fA [0, 1, 2, 3, 4, 5, 6, 7, 8, 9, 10, 11, 12, 13, 14, 15, 16, 17, 18, 19, 20, 21] 22 (y := 265) (pcN := 64) (dC := 6) (bc1 := 6) (bc2 := 186) (c1 := 0) (c2 := 0) (as := [(4, 0), (1, 10000), (0, 0)]) (asC := [(4, 0), (1, 10000), (0, 0)]) (LN := [(0, (4, 0)), (1, (0, x1)), (2, (0, 4)), (3, (0, 0))]) (stN := []) (hsC := jpA_684) (ex := jpA_4341) (v := (1, 0)) (st2 := [(1, 0)]) (hs2 := jpA_4349) (jA_265_1392 (d := 0)) (by rfl) (by rfl) (by decide +kernel) (by rfl) (by rfl) (by omega) (by omega) (by omega) (by omega) rfl (by decide +kernel) ?_
  exact jT_ret rfl (by decide) (by show 22 ≤ 28; decide) (by omega) (by omega) ⟨rfl, rfl, rfl⟩
theorem jA_108_1394 {xs : List Int} {d : Nat} : jT xs (d + 3) 108 16 0 [(0, (4, 0)), (1, (4, 1)), (2, (0, 4)), (3, (0, 1))] [] jpA_4325 2 8 (fun k v hsN => k = 0 ∧ v = (1, 0) ∧ hsN = jpA_4325 ++ [(101, [], [0, 0, 0, 0, 0, 0]), (4, [(4, 16), (1, 1)], [])]) := by
  refine jT_advK 54 (pcN := 69) (LN := [(6, (0, 4)), (4, (1, 12000000)), (0, (4, 0)), (1, (4, 1)), (2, (0, 4)), (3, (0, 1))]) (stN := [(1, 0), (1, 1), (1, (-1)), (4, 1), (4, 2)]) (hsN := jpA_4325) (c1 := 0) (s1 := 0) (c2 := 2) (s2 := 8) (by decide +kernel) ?_ (by omega) (by omega)
  refine jT_fA [1, 13] 16 (y := 10) (pcN := 72) (dC := 2) (bc1 := 2) (bc2 := 8) (c1 := 0) (c2 := 0) (as := [(4, 1), (1, (-1)), (1, 1), (1, 0)]) (asC := [(4, 0), (1, (-1)), (1, 1), (1, 0)]) (LN := [(6, (0, 4)), (4, (1, 12000000)), (0, (4, 0)), (1, (4, 1)), (2, (0, 4)), (3, (0, 1))]) (stN := [(4, 2)]) (hsC := [(4, [(4, 1), (1, 1)], []), (101, [], [0, 0, 0, 0, 0, 0])]) (ex := [(101, [], [0, 0, 0, 0, 0, 0]), (4, [(4, 2), (1, 1)], [])]) (v := (4, 3)) (st2 := [(4, 17), (4, 2)]) (hs2 := jpA_4350) (jA_10_1294 (d := 0)) (by rfl) (by rfl) (by decide +kernel) (by rfl) (by rfl) (by omega) (by omega) (by omega) (by omega) rfl (by decide +kernel) ?_
  refine jT_advK 1 (pcN := 74) (LN := [(6, (0, 4)), (4, (1, 12000000)), (0, (4, 0)), (1, (4, 1)), (2, (0, 4)), (3, (0, 1))]) (stN := [(1, 12000000), (4, 17), (4, 2)]) (hsN := jpA_4350) (c1 := 0) (s1 := 0) (c2 := 0) (s2 := 0) (by decide +kernel) ?_ (by omega) (by omega)
  refine jT_fR [2, 17, 14, 15, 16] 18 (y := 44) (pcN := 77) (dC := 2) (bc1 := 0) (bc2 := 0) (c1 := 0) (c2 := 0) (as := [(4, 2), (4, 17), (1, 12000000)]) (asC := [(4, 0), (4, 1), (1, 12000000)]) (LN := [(6, (0, 4)), (4, (1, 12000000)), (0, (4, 0)), (1, (4, 1)), (2, (0, 4)), (3, (0, 1))]) (stN := []) (hsC := jpA_626) (v := (1, 0)) (st2 := [(1, 0)]) (jA_44_1385 (d := 0)) (by rfl) (by rfl) (by decide +kernel) (by rfl) (by rfl) (by omega) (by omega) (by omega) (by omega) rfl ?_
  refine jT_advK 1 (pcN := 78) (LN := [(6, (0, 4)), (4, (1, 12000000)), (0, (4, 0)), (1, (4, 1)), (2, (0, 4)), (3, (0, 1))]) (stN := [(1, 0)]) (hsN := jpA_4350) (c1 := 0) (s1 := 0) (c2 := 0) (s2 := 0) (by decide +kernel) ?_ (by omega) (by omega)
  exact jT_ret rfl (by decide) (by show 16 ≤ 18; decide) (by omega) (by omega) ⟨rfl, rfl, rfl⟩
theorem jA_140_1395 {xs : List Int} {d : Nat} {x1 : Int} (h_x1 : 0 ≤ x1 ∧ x1 ≤ 7) : jT xs (d + 4) 140 21 0 [(0, (4, 0)), (1, (0, x1)), (2, (0, 4)), (3, (0, 1))] [] jpA_3958 2 8 (fun k v hsN => k = 0 ∧ v = (1, 0) ∧ hsN = jpA_3958 ++ [(101, [], [0, 0, 0, 0, 0, 0]), (4, [(4, 21), (1, 1)], [])]) := by
  refine jT_xaload_n (v := (4, 0)) (pcN := 1) jI_140_0 rfl rfl rfl ?_
  refine jT_xiload_n (v := (0, x1)) (pcN := 2) jI_140_1 rfl rfl rfl ?_
  refine jT_xbipush (k := 8) (pcN := 4) jI_140_2 (by decide) rfl ?_
  refine jT_fR [0] 21 (y := 115) (pcN := 7) (dC := 0) (bc1 := 0) (bc2 := 0) (c1 := 2) (c2 := 8) (as := [(4, 0), (0, x1), (0, 8)]) (asC := [(4, 0), (0, x1), (0, 8)]) (LN := [(0, (4, 0)), (1, (0, x1)), (2, (0, 4)), (3, (0, 1))]) (stN := []) (hsC := [jgh]) (v := (9, 0)) (st2 := []) (jA_115_9 (d := 0) (by omega)) (by rfl) (by rfl) (by decide +kernel) (by rfl) (by rfl) (by omega) (by omega) (by omega) (by omega) rfl ?_
  refine jT_xaload_n (v := (4, 0)) (pcN := 8) jI_140_7 rfl rfl rfl ?_
  refine jT_xiload_n (v := (0, 4)) (pcN := 9) jI_140_8 rfl rfl rfl ?_
  refine jT_xiconst (k := 0) (pcN := 10) jI_140_9 rfl ?_
  refine jT_xbipush (k := 9) (pcN := 12) jI_140_10 (by decide) rfl ?_
  refine jT_fR [0] 21 (y := 116) (pcN := 15) (dC := 0) (bc1 := 0) (bc2 := 0) (c1 := 2) (c2 := 8) (as := [(4, 0), (0, 4), (0, 0), (0, 9)]) (asC := [(4, 0), (0, 4), (0, 0), (0, 9)]) (LN := [(0, (4, 0)), (1, (0, x1)), (2, (0, 4)), (3, (0, 1))]) (stN := []) (hsC := [jgh]) (v := (9, 0)) (st2 := []) (jA_116_1383 (d := 0)) (by rfl) (by rfl) (by decide +kernel) (by rfl) (by rfl) (by omega) (by omega) (by omega) (by omega) rfl ?_
  refine jT_xaload_n (v := (4, 0)) (pcN := 16) jI_140_15 rfl rfl rfl ?_
  refine jT_xiload_n (v := (0, 1)) (pcN := 17) jI_140_16 rfl rfl rfl ?_
  refine jT_xiconst (k := 0) (pcN := 18) jI_140_17 rfl ?_
  refine jT_xiconst (k := 2) (pcN := 19) jI_140_18 rfl ?_
  refine jT_fR [0] 21 (y := 116) (pcN := 22) (dC := 0) (bc1 := 0) (bc2 := 0) (c1 := 2) (c2 := 8) (as := [(4, 0), (0, 1), (0, 0), (0, 2)]) (asC := [(4, 0), (0, 1), (0, 0), (0, 2)]) (LN := [(0, (4, 0)), (1, (0, x1)), (2, (0, 4)), (3, (0, 1))]) (stN := []) (hsC := [jgh]) (v := (9, 0)) (st2 := []) (jA_116_1293 (d := 0)) (by rfl) (by rfl) (by decide +kernel) (by rfl) (by rfl) (by omega) (by omega) (by omega) (by omega) rfl ?_
  refine jT_xaload_n (v := (4, 0)) (pcN := 23) jI_140_22 rfl rfl rfl ?_
  refine jT_xaload_n (v := (4, 0)) (pcN := 24) jI_140_23 rfl rfl rfl ?_
  refine jT_xgetf (a := 0) (t := 1) (ci := 13) (fi := 11) (c := jzA_5) (v := (4, 11)) (pcN := 27) jI_140_24 rfl rfl rfl rfl rfl rfl rfl ?_
  refine jT_xiload_n (v := (0, x1)) (pcN := 28) jI_140_27 rfl rfl rfl ?_
  refine jT_fR [11, 14, 15, 16, 17, 18, 19] 21 (y := 57) (pcN := 31) (dC := 0) (bc1 := 0) (bc2 := 0) (c1 := 2) (c2 := 8) (as := [(4, 11), (0, x1)]) (asC := [(4, 0), (0, x1)]) (LN := [(0, (4, 0)), (1, (0, x1)), (2, (0, 4)), (3, (0, 1))]) (stN := [(4, 0)]) (hsC := jpA_47) (v := (4, 6)) (st2 := [(4, 19), (4, 0)]) (jA_57_108 (d := 0) (by omega)) (by rfl) (by rfl) (by decide +kernel) (by rfl) (by rfl) (by omega) (by omega) (by omega) (by omega) rfl ?_
  refine jT_xiload_n (v := (0, 4)) (pcN := 32) jI_140_31 rfl rfl rfl ?_
  refine jT_xiload_n (v := (0, 1)) (pcN := 33) jI_140_32 rfl rfl rfl ?_
  refine jT_fA [0, 19, 1, 2, 3, 4, 5, 6, 7, 8, 9, 10, 11, 20, 12, 13] 21 (y := 108) (pcN := 36) (dC := 3) (bc1 := 2) (bc2 := 8) (c1 := 0) (c2 := 0) (as := [(4, 0), (4, 19), (0, 4), (0, 1)]) (asC := [(4, 0), (4, 1), (0, 4), (0, 1)]) (LN := [(0, (4, 0)), (1, (0, x1)), (2, (0, 4)), (3, (0, 1))]) (stN := []) (hsC := jpA_4325) (ex := [(101, [], [0, 0, 0, 0, 0, 0]), (4, [(4, 16), (1, 1)], [])]) (v := (1, 0)) (st2 := [(1, 0)]) (hs2 := jpA_4351) (jA_108_1394 (d := 0)) (by rfl) (by rfl) (by decide +kernel) (by rfl) (by rfl) (by omega) (by omega) (by omega) (by omega) rfl (by decide +kernel) ?_
  exact jT_ret rfl (by decide) (by show 21 ≤ 23; decide) (by omega) (by omega) ⟨rfl, rfl, rfl⟩
theorem jA_347_1396 {xs : List Int} {d : Nat} {x1 : Int} (h_x1 : 0 ≤ x1 ∧ x1 ≤ 7) : jT xs (d + 5) 347 22 0 [(0, (4, 0)), (1, (0, x1)), (2, (0, 4)), (3, (0, 1)), (4, (4, 1))] [] jpA_4038 2 8 (fun k v hsN => k = 0 ∧ v = (0, 0) ∧ hsN = jpA_4038 ++ [(101, [], [0, 0, 0, 0, 0, 0]), (4, [(4, 22), (1, 1)], [])]) := by
  refine jT_xaload (v := (4, 1)) (pcN := 2) jI_347_0 rfl rfl rfl ?_
  refine jT_xiconst (k := 0) (pcN := 3) jI_347_2 rfl ?_
  refine jT_xaload_n (v := (4, 0)) (pcN := 4) jI_347_3 rfl rfl rfl ?_
  refine jT_xiload_n (v := (0, x1)) (pcN := 5) jI_347_4 rfl rfl rfl ?_
  refine jT_xiload_n (v := (0, 4)) (pcN := 6) jI_347_5 rfl rfl rfl ?_
  refine jT_xiload_n (v := (0, 1)) (pcN := 7) jI_347_6 rfl rfl rfl ?_
  refine jT_fA [0, 2, 3, 4, 5, 6, 7, 8, 9, 10, 11, 12, 13, 14, 15, 16, 17, 18, 19, 20, 21] 22 (y := 140) (pcN := 10) (dC := 4) (bc1 := 2) (bc2 := 8) (c1 := 0) (c2 := 0) (as := [(4, 0), (0, x1), (0, 4), (0, 1)]) (asC := [(4, 0), (0, x1), (0, 4), (0, 1)]) (LN := [(0, (4, 0)), (1, (0, x1)), (2, (0, 4)), (3, (0, 1)), (4, (4, 1))]) (stN := [(0, 0), (4, 1)]) (hsC := jpA_3958) (ex := [(101, [], [0, 0, 0, 0, 0, 0]), (4, [(4, 21), (1, 1)], [])]) (v := (1, 0)) (st2 := [(1, 0), (0, 0), (4, 1)]) (hs2 := jpA_4352) (jA_140_1395 (d := 0) (by omega)) (by rfl) (by rfl) (by decide +kernel) (by rfl) (by rfl) (by omega) (by omega) (by omega) (by omega) rfl (by decide +kernel) ?_
  refine jT_adv 1 (pcN := 11) (LN := [(0, (4, 0)), (1, (0, x1)), (2, (0, 4)), (3, (0, 1)), (4, (4, 1))]) (stN := []) (hsN := jpA_4352) (c1 := 0) (s1 := 0) (c2 := 0) (s2 := 0) (by exact rfl) ?_ (by omega) (by omega)
  refine jT_xgoto (pcN := 22) jI_347_11 rfl ?_
  refine jT_xiconst (k := 0) (pcN := 23) jI_347_22 rfl ?_
  exact jT_ret rfl (by decide) (by show 22 ≤ 24; decide) (by omega) (by omega) ⟨rfl, rfl, rfl⟩
theorem jA_265_1397 {xs : List Int} {d : Nat} : jT xs (d + 6) 265 22 0 [(0, (4, 0)), (1, (1, 10000)), (3, (0, 1))] [] jpA_684 7 192 (fun k v hsN => k = 0 ∧ v = (1, 0) ∧ hsN = jpA_684 ++ jpA_4354) := by
  refine jT_advK 4 (pcN := 6) (LN := [(0, (4, 0)), (1, (1, 10000)), (3, (0, 1))]) (stN := [(1, 12000000), (4, 0)]) (hsN := jpA_684) (c1 := 0) (s1 := 0) (c2 := 7) (s2 := 192) (by decide +kernel) ?_ (by omega) (by omega)
  refine jT_fA [0, 1, 2, 3, 4, 5, 6, 7, 8, 9, 10, 11, 12, 13, 14, 15] 22 (y := 218) (pcN := 9) (dC := 0) (bc1 := 1) (bc2 := 6) (c1 := 6) (c2 := 186) (as := [(4, 0), (1, 12000000)]) (asC := [(4, 0), (1, 12000000)]) (LN := [(0, (4, 0)), (1, (1, 10000)), (3, (0, 1))]) (stN := []) (hsC := jpA_147) (ex := [(101, [], [0, 0, 0, 0, 0, 0])]) (v := (4, 16)) (st2 := [(4, 22)]) (hs2 := jpA_3652) (jA_218_1391 (d := 0)) (by rfl) (by rfl) (by decide +kernel) (by rfl) (by rfl) (by omega) (by omega) (by omega) (by omega) rfl (by decide +kernel) ?_
  refine jT_advK 8 (pcN := 34) (LN := [(4, (4, 22)), (0, (4, 0)), (1, (1, 10000)), (3, (0, 1))]) (stN := [(1, 1), (4, 22), (4, 0)]) (hsN := jpA_3652) (c1 := 0) (s1 := 0) (c2 := 6) (s2 := 186) (by decide +kernel) ?_ (by omega) (by omega)
  refine jT_fA [0, 22, 1, 2, 3, 4, 5, 6, 7, 8, 9, 10, 11, 12, 13, 14, 15, 16, 17, 18, 19, 20, 21] 23 (y := 210) (pcN := 37) (dC := 5) (bc1 := 5) (bc2 := 180) (c1 := 1) (c2 := 6) (as := [(4, 0), (4, 22), (1, 1)]) (asC := [(4, 0), (4, 1), (1, 1)]) (LN := [(4, (4, 22)), (0, (4, 0)), (1, (1, 10000)), (3, (0, 1))]) (stN := []) (hsC := jpA_987) (ex := jpA_683) (v := (1, 0)) (st2 := [(1, 0)]) (hs2 := jpA_4340) (jA_210_1290 (d := 0)) (by rfl) (by rfl) (by decide +kernel) (by rfl) (by rfl) (by omega) (by omega) (by omega) (by omega) rfl (by decide +kernel) ?_
  refine jT_advK 9 (pcN := 53) (LN := [(5, (1, 0)), (4, (4, 22)), (0, (4, 0)), (1, (1, 10000)), (3, (0, 1))]) (stN := [(1, 0), (4, 22), (4, 0)]) (hsN := jpA_4340) (c1 := 0) (s1 := 0) (c2 := 1) (s2 := 6) (by decide +kernel) ?_ (by omega) (by omega)
  refine jT_fA [0, 22, 1, 2, 3, 4, 5, 6, 7, 8, 9, 10, 11, 12, 13, 14, 15] 28 (y := 212) (pcN := 56) (dC := 2) (bc1 := 1) (bc2 := 6) (c1 := 0) (c2 := 0) (as := [(4, 0), (4, 22), (1, 0)]) (asC := [(4, 0), (4, 1), (1, 0)]) (LN := [(5, (1, 0)), (4, (4, 22)), (0, (4, 0)), (1, (1, 10000)), (3, (0, 1))]) (stN := []) (hsC := jpA_4335) (ex := [(101, [], [0, 0, 0, 0, 0, 0])]) (v := (0, 0)) (st2 := [(0, 0)]) (hs2 := jpA_4353) (jA_212_1288 (d := 0)) (by rfl) (by rfl) (by decide +kernel) (by rfl) (by rfl) (by omega) (by omega) (by omega) (by omega) rfl (by decide +kernel) ?_
  refine jT_advK 3 (pcN := 68) (LN := [(5, (1, 0)), (4, (4, 22)), (0, (4, 0)), (1, (1, 10000)), (3, (0, 1))]) (stN := [(1, 0)]) (hsN := jpA_4353) (c1 := 0) (s1 := 0) (c2 := 0) (s2 := 0) (by decide +kernel) ?_ (by omega) (by omega)
  exact jT_ret rfl (by decide) (by show 22 ≤ 29; decide) (by omega) (by omega) ⟨rfl, rfl, rfl⟩
theorem jA_263_1398 {xs : List Int} {d : Nat} {x1 : Int} (h_x1 : 0 ≤ x1 ∧ x1 ≤ 7) : jT xs (d + 7) 263 22 0 [(0, (4, 0)), (1, (0, x1)), (2, (0, 4)), (3, (0, 1))] [] jpA_1695 7 192 (fun k v hsN => k = 0 ∧ v = (1, 0) ∧ hsN = jpA_1695 ++ jpA_4354) := by
  refine jT_xaload_n (v := (4, 0)) (pcN := 1) jI_263_0 rfl rfl rfl ?_
  refine jT_xiload_n (v := (0, x1)) (pcN := 2) jI_263_1 rfl rfl rfl ?_
  refine jT_fR [] 22 (y := 188) (pcN := 5) (dC := 1) (bc1 := 0) (bc2 := 0) (c1 := 7) (c2 := 192) (as := [(0, x1)]) (asC := [(0, x1)]) (LN := [(0, (4, 0)), (1, (0, x1)), (2, (0, 4)), (3, (0, 1))]) (stN := [(4, 0)]) (hsC := []) (v := (0, 1)) (st2 := [(0, 1), (4, 0)]) (jA_188_13 (d := 0) (by omega)) (by rfl) (by rfl) (by decide +kernel) (by rfl) (by rfl) (by omega) (by omega) (by omega) (by omega) rfl ?_
  refine jT_fR [0, 1, 2, 3, 4, 5, 6, 7, 8, 9, 10, 11, 12, 13, 14, 15] 22 (y := 190) (pcN := 8) (dC := 1) (bc1 := 0) (bc2 := 0) (c1 := 7) (c2 := 192) (as := [(4, 0), (0, 1)]) (asC := [(4, 0), (0, 1)]) (LN := [(0, (4, 0)), (1, (0, x1)), (2, (0, 4)), (3, (0, 1))]) (stN := []) (hsC := jpA_22) (v := (0, 0)) (st2 := [(0, 0)]) (jA_190_39 (d := 0)) (by rfl) (by rfl) (by decide +kernel) (by rfl) (by rfl) (by omega) (by omega) (by omega) (by omega) rfl ?_
  refine jT_xifF (t := 48) (pcN := 11) jI_263_8 rfl (by decide +kernel) rfl rfl ?_
  refine jT_xaload_n (v := (4, 0)) (pcN := 12) jI_263_11 rfl rfl rfl ?_
  refine jT_xiload_n (v := (0, 4)) (pcN := 13) jI_263_12 rfl rfl rfl ?_
  refine jT_xi2l (x := 4) (z := 4) (pcN := 14) jI_263_13 rfl (by decide +kernel) rfl ?_
  refine jT_xlconst (z := 0) (pcN := 15) jI_263_14 rfl rfl ?_
  refine jT_adv 1 (pcN := 18) (LN := [(0, (4, 0)), (1, (0, x1)), (2, (0, 4)), (3, (0, 1))]) (stN := [(1, 9), (1, 0), (1, 4), (4, 0)]) (hsN := jpA_1695) (c1 := 0) (s1 := 0) (c2 := 7) (s2 := 192) (by exact rfl) ?_ (by omega) (by omega)
  refine jT_fR [] 22 (y := 189) (pcN := 21) (dC := 0) (bc1 := 0) (bc2 := 0) (c1 := 7) (c2 := 192) (as := [(1, 4), (1, 0), (1, 9)]) (asC := [(1, 4), (1, 0), (1, 9)]) (LN := [(0, (4, 0)), (1, (0, x1)), (2, (0, 4)), (3, (0, 1))]) (stN := [(4, 0)]) (hsC := []) (v := (0, 1)) (st2 := [(0, 1), (4, 0)]) (jA_189_1389 (d := 0)) (by rfl) (by rfl) (by decide +kernel) (by rfl) (by rfl) (by omega) (by omega) (by omega) (by omega) rfl ?_
  refine jT_xifF (t := 40) (pcN := 24) jI_263_21 rfl (by decide +kernel) rfl rfl ?_
  refine jT_xiload_n (v := (0, 1)) (pcN := 25) jI_263_24 rfl rfl rfl ?_
  refine jT_xi2l (x := 1) (z := 1) (pcN := 26) jI_263_25 rfl (by decide +kernel) rfl ?_
  refine jT_xlconst (z := 0) (pcN := 27) jI_263_26 rfl rfl ?_
  refine jT_adv 1 (pcN := 30) (LN := [(0, (4, 0)), (1, (0, x1)), (2, (0, 4)), (3, (0, 1))]) (stN := [(1, 2), (1, 0), (1, 1), (4, 0)]) (hsN := jpA_1695) (c1 := 0) (s1 := 0) (c2 := 7) (s2 := 192) (by exact rfl) ?_ (by omega) (by omega)
  refine jT_fR [] 22 (y := 189) (pcN := 33) (dC := 0) (bc1 := 0) (bc2 := 0) (c1 := 7) (c2 := 192) (as := [(1, 1), (1, 0), (1, 2)]) (asC := [(1, 1), (1, 0), (1, 2)]) (LN := [(0, (4, 0)), (1, (0, x1)), (2, (0, 4)), (3, (0, 1))]) (stN := [(4, 0)]) (hsC := []) (v := (0, 1)) (st2 := [(0, 1), (4, 0)]) (jA_189_1298 (d := 0)) (by rfl) (by rfl) (by decide +kernel) (by rfl) (by rfl) (by omega) (by omega) (by omega) (by omega) rfl ?_
  refine jT_xifF (t := 40) (pcN := 36) jI_263_33 rfl (by decide +kernel) rfl rfl ?_
  refine jT_xiconst (k := 1) (pcN := 37) jI_263_36 rfl ?_
  refine jT_xgoto (pcN := 41) jI_263_37 rfl ?_
  refine jT_xiconst (k := 2) (pcN := 42) jI_263_41 rfl ?_
  refine jT_fR [0] 22 (y := 191) (pcN := 45) (dC := 0) (bc1 := 0) (bc2 := 0) (c1 := 7) (c2 := 192) (as := [(4, 0), (0, 1), (0, 2)]) (asC := [(4, 0), (0, 1), (0, 2)]) (LN := [(0, (4, 0)), (1, (0, x1)), (2, (0, 4)), (3, (0, 1))]) (stN := []) (hsC := [jgh]) (v := (0, 0)) (st2 := [(0, 0)]) (jA_191_49 (d := 0)) (by rfl) (by rfl) (by decide +kernel) (by rfl) (by rfl) (by omega) (by omega) (by omega) (by omega) rfl ?_
  refine jT_xifT (pcN := 50) jI_263_45 rfl (by decide +kernel) rfl ?_
  refine jT_xaload_n (v := (4, 0)) (pcN := 51) jI_263_50 rfl rfl rfl ?_
  refine jT_xiload_n (v := (0, x1)) (pcN := 52) jI_263_51 rfl rfl rfl ?_
  refine jT_fR [0, 1, 2, 3, 4, 5, 6, 7, 8, 9, 10, 11, 12, 13, 14, 15] 22 (y := 202) (pcN := 55) (dC := 1) (bc1 := 0) (bc2 := 0) (c1 := 7) (c2 := 192) (as := [(4, 0), (0, x1)]) (asC := [(4, 0), (0, x1)]) (LN := [(0, (4, 0)), (1, (0, x1)), (2, (0, 4)), (3, (0, 1))]) (stN := []) (hsC := jpA_130) (v := (9, 0)) (st2 := []) (jA_202_115 (d := 0) (by omega)) (by rfl) (by rfl) (by decide +kernel) (by rfl) (by rfl) (by omega) (by omega) (by omega) (by omega) rfl ?_
  refine jT_xaload_n (v := (4, 0)) (pcN := 56) jI_263_55 rfl rfl rfl ?_
  refine jT_xiload_n (v := (0, 4)) (pcN := 57) jI_263_56 rfl rfl rfl ?_
  refine jT_fR [] 22 (y := 264) (pcN := 60) (dC := 0) (bc1 := 0) (bc2 := 0) (c1 := 7) (c2 := 192) (as := [(0, 4)]) (asC := [(0, 4)]) (LN := [(0, (4, 0)), (1, (0, x1)), (2, (0, 4)), (3, (0, 1))]) (stN := [(4, 0)]) (hsC := []) (v := (1, 10000)) (st2 := [(1, 10000), (4, 0)]) (jA_264_1390 (d := 0)) (by rfl) (by rfl) (by decide +kernel) (by rfl) (by rfl) (by omega) (by omega) (by omega) (by omega) rfl ?_
  refine jT_xiload_n (v := (0, 1)) (pcN := 61) jI_263_60 rfl rfl rfl ?_
  refine jT_fA [0, 1, 2, 3, 4, 5, 6, 7, 8, 9, 10, 11, 12, 13, 14, 15, 16, 17, 18, 19, 20, 21] 22 (y := 265) (pcN := 64) (dC := 6) (bc1 := 7) (bc2 := 192) (c1 := 0) (c2 := 0) (as := [(4, 0), (1, 10000), (0, 1)]) (asC := [(4, 0), (1, 10000), (0, 1)]) (LN := [(0, (4, 0)), (1, (0, x1)), (2, (0, 4)), (3, (0, 1))]) (stN := []) (hsC := jpA_684) (ex := jpA_4354) (v := (1, 0)) (st2 := [(1, 0)]) (hs2 := jpA_4355) (jA_265_1397 (d := 0)) (by rfl) (by rfl) (by decide +kernel) (by rfl) (by rfl) (by omega) (by omega) (by omega) (by omega) rfl (by decide +kernel) ?_
  exact jT_ret rfl (by decide) (by show 22 ≤ 29; decide) (by omega) (by omega) ⟨rfl, rfl, rfl⟩
theorem jA_45_1399 {xs : List Int} {d : Nat} : jT xs (d + 1) 45 4 0 [(0, (4, 0)), (1, (4, 1)), (2, (1, 1)), (4, (1, 24000000))] [] jpA_625 0 0 (fun k v hsN => k = 0 ∧ v = (1, 0) ∧ hsN = jpA_625 ++ []) := by
  refine jT_advK 10 (pcN := 17) (LN := [(0, (4, 0)), (1, (4, 1)), (2, (1, 1)), (4, (1, 24000000))]) (stN := [(4, 1), (4, 0)]) (hsN := jpA_625) (c1 := 0) (s1 := 0) (c2 := 0) (s2 := 0) (by decide +kernel) ?_ (by omega) (by omega)
  refine jT_fR [0, 1] 4 (y := 39) (pcN := 20) (dC := 0) (bc1 := 0) (bc2 := 0) (c1 := 0) (c2 := 0) (as := [(4, 0), (4, 1)]) (asC := [(4, 0), (4, 1)]) (LN := [(0, (4, 0)), (1, (4, 1)), (2, (1, 1)), (4, (1, 24000000))]) (stN := []) (hsC := [jgh, (101, [], [0, 0, 0, 0, 0, 0])]) (v := (1, 0)) (st2 := [(1, 0)]) (jA_39_144 (d := 0)) (by rfl) (by rfl) (by decide +kernel) (by rfl) (by rfl) (by omega) (by omega) (by omega) (by omega) rfl ?_
  refine jT_advK 11 (pcN := 36) (LN := [(6, (1, 0)), (0, (4, 0)), (1, (4, 1)), (2, (1, 1)), (4, (1, 24000000))]) (stN := [(1, 1), (1, 0)]) (hsN := jpA_625) (c1 := 0) (s1 := 0) (c2 := 0) (s2 := 0) (by decide +kernel) ?_ (by omega) (by omega)
  refine jT_fR [] 4 (y := 373) (pcN := 39) (dC := 0) (bc1 := 0) (bc2 := 0) (c1 := 0) (c2 := 0) (as := [(1, 0), (1, 1)]) (asC := [(1, 0), (1, 1)]) (LN := [(6, (1, 0)), (0, (4, 0)), (1, (4, 1)), (2, (1, 1)), (4, (1, 24000000))]) (stN := []) (hsC := []) (v := (1, 0)) (st2 := [(1, 0)]) (jA_373_145 (d := 0)) (by rfl) (by rfl) (by decide +kernel) (by rfl) (by rfl) (by omega) (by omega) (by omega) (by omega) rfl ?_
  exact jT_ret rfl (by decide) (by show 4 ≤ 4; decide) (by omega) (by omega) ⟨rfl, rfl, rfl⟩
theorem jA_44_1400 {xs : List Int} {d : Nat} : jT xs (d + 2) 44 5 0 [(0, (4, 0)), (1, (4, 1)), (2, (1, 24000000))] [] jpA_626 0 0 (fun k v hsN => k = 0 ∧ v = (1, 0) ∧ hsN = jpA_626 ++ []) := by
  refine jT_advK 6 (pcN := 10) (LN := [(0, (4, 0)), (1, (4, 1)), (2, (1, 24000000))]) (stN := [(1, 24000000), (1, 1), (4, 4), (4, 0)]) (hsN := jpA_626) (c1 := 0) (s1 := 0) (c2 := 0) (s2 := 0) (by decide +kernel) ?_ (by omega) (by omega)
  refine jT_fR [0, 4, 2, 3] 5 (y := 45) (pcN := 13) (dC := 1) (bc1 := 0) (bc2 := 0) (c1 := 0) (c2 := 0) (as := [(4, 0), (4, 4), (1, 1), (1, 24000000)]) (asC := [(4, 0), (4, 1), (1, 1), (1, 24000000)]) (LN := [(0, (4, 0)), (1, (4, 1)), (2, (1, 24000000))]) (stN := []) (hsC := jpA_625) (v := (1, 0)) (st2 := [(1, 0)]) (jA_45_1399 (d := 0)) (by rfl) (by rfl) (by decide +kernel) (by rfl) (by rfl) (by omega) (by omega) (by omega) (by omega) rfl ?_
  exact jT_ret rfl (by decide) (by show 5 ≤ 5; decide) (by omega) (by omega) ⟨rfl, rfl, rfl⟩
theorem jA_43_1401 {xs : List Int} {d : Nat} : jT xs (d + 3) 43 5 0 [(0, (4, 0)), (1, (4, 1)), (2, (1, 12000000))] [] jpA_626 0 0 (fun k v hsN => k = 0 ∧ v = (1, 0) ∧ hsN = jpA_626 ++ []) := by
  refine jT_advK 5 (pcN := 7) (LN := [(0, (4, 0)), (1, (4, 1)), (2, (1, 12000000))]) (stN := [(1, 24000000), (4, 1), (4, 0)]) (hsN := jpA_626) (c1 := 0) (s1 := 0) (c2 := 0) (s2 := 0) (by decide +kernel) ?_ (by omega) (by omega)
  refine jT_fR [0, 1, 2, 3, 4] 5 (y := 44) (pcN := 10) (dC := 2) (bc1 := 0) (bc2 := 0) (c1 := 0) (c2 := 0) (as := [(4, 0), (4, 1), (1, 24000000)]) (asC := [(4, 0), (4, 1), (1, 24000000)]) (LN := [(0, (4, 0)), (1, (4, 1)), (2, (1, 12000000))]) (stN := []) (hsC := jpA_626) (v := (1, 0)) (st2 := [(1, 0)]) (jA_44_1400 (d := 0)) (by rfl) (by rfl) (by decide +kernel) (by rfl) (by rfl) (by omega) (by omega) (by omega) (by omega) rfl ?_
  refine jT_advK 3 (pcN := 13) (LN := [(0, (4, 0)), (1, (4, 1)), (2, (1, 12000000))]) (stN := [(0, 2), (1, 1)]) (hsN := jpA_626) (c1 := 0) (s1 := 0) (c2 := 0) (s2 := 0) (by decide +kernel) ?_ (by omega) (by omega)
  refine jT_fR [] 5 (y := 374) (pcN := 16) (dC := 1) (bc1 := 0) (bc2 := 0) (c1 := 0) (c2 := 0) (as := [(1, 1), (0, 2)]) (asC := [(1, 1), (0, 2)]) (LN := [(0, (4, 0)), (1, (4, 1)), (2, (1, 12000000))]) (stN := []) (hsC := []) (v := (1, 0)) (st2 := [(1, 0)]) (jA_374_178 (d := 0)) (by rfl) (by rfl) (by decide +kernel) (by rfl) (by rfl) (by omega) (by omega) (by omega) (by omega) rfl ?_
  exact jT_ret rfl (by decide) (by show 5 ≤ 5; decide) (by omega) (by omega) ⟨rfl, rfl, rfl⟩
theorem jA_108_1402 {xs : List Int} {d : Nat} : jT xs (d + 4) 108 16 0 [(0, (4, 0)), (1, (4, 1)), (2, (0, 4)), (3, (0, 2))] [] jpA_4325 0 0 (fun k v hsN => k = 0 ∧ v = (1, 0) ∧ hsN = jpA_4325 ++ []) := by
  refine jT_advK 50 (pcN := 40) (LN := [(6, (0, 4)), (4, (1, 12000000)), (0, (4, 0)), (1, (4, 1)), (2, (0, 4)), (3, (0, 2))]) (stN := [(1, 12000000), (4, 1), (4, 2)]) (hsN := jpA_4325) (c1 := 0) (s1 := 0) (c2 := 0) (s2 := 0) (by decide +kernel) ?_ (by omega) (by omega)
  refine jT_fR [2, 1, 14, 15, 13] 16 (y := 43) (pcN := 43) (dC := 3) (bc1 := 0) (bc2 := 0) (c1 := 0) (c2 := 0) (as := [(4, 2), (4, 1), (1, 12000000)]) (asC := [(4, 0), (4, 1), (1, 12000000)]) (LN := [(6, (0, 4)), (4, (1, 12000000)), (0, (4, 0)), (1, (4, 1)), (2, (0, 4)), (3, (0, 2))]) (stN := []) (hsC := jpA_626) (v := (1, 0)) (st2 := [(1, 0)]) (jA_43_1401 (d := 0)) (by rfl) (by rfl) (by decide +kernel) (by rfl) (by rfl) (by omega) (by omega) (by omega) (by omega) rfl ?_
  exact jT_ret rfl (by decide) (by show 16 ≤ 16; decide) (by omega) (by omega) ⟨rfl, rfl, rfl⟩
theorem jA_140_1403 {xs : List Int} {d : Nat} {x1 : Int} (h_x1 : 0 ≤ x1 ∧ x1 ≤ 7) : jT xs (d + 5) 140 21 0 [(0, (4, 0)), (1, (0, x1)), (2, (0, 4)), (3, (0, 2))] [] jpA_3958 0 0 (fun k v hsN => k = 0 ∧ v = (1, 0) ∧ hsN = jpA_3958 ++ []) := by
  refine jT_xaload_n (v := (4, 0)) (pcN := 1) jI_140_0 rfl rfl rfl ?_
  refine jT_xiload_n (v := (0, x1)) (pcN := 2) jI_140_1 rfl rfl rfl ?_
  refine jT_xbipush (k := 8) (pcN := 4) jI_140_2 (by decide) rfl ?_
  refine jT_fR [0] 21 (y := 115) (pcN := 7) (dC := 0) (bc1 := 0) (bc2 := 0) (c1 := 0) (c2 := 0) (as := [(4, 0), (0, x1), (0, 8)]) (asC := [(4, 0), (0, x1), (0, 8)]) (LN := [(0, (4, 0)), (1, (0, x1)), (2, (0, 4)), (3, (0, 2))]) (stN := []) (hsC := [jgh]) (v := (9, 0)) (st2 := []) (jA_115_9 (d := 0) (by omega)) (by rfl) (by rfl) (by decide +kernel) (by rfl) (by rfl) (by omega) (by omega) (by omega) (by omega) rfl ?_
  refine jT_xaload_n (v := (4, 0)) (pcN := 8) jI_140_7 rfl rfl rfl ?_
  refine jT_xiload_n (v := (0, 4)) (pcN := 9) jI_140_8 rfl rfl rfl ?_
  refine jT_xiconst (k := 0) (pcN := 10) jI_140_9 rfl ?_
  refine jT_xbipush (k := 9) (pcN := 12) jI_140_10 (by decide) rfl ?_
  refine jT_fR [0] 21 (y := 116) (pcN := 15) (dC := 0) (bc1 := 0) (bc2 := 0) (c1 := 0) (c2 := 0) (as := [(4, 0), (0, 4), (0, 0), (0, 9)]) (asC := [(4, 0), (0, 4), (0, 0), (0, 9)]) (LN := [(0, (4, 0)), (1, (0, x1)), (2, (0, 4)), (3, (0, 2))]) (stN := []) (hsC := [jgh]) (v := (9, 0)) (st2 := []) (jA_116_1383 (d := 0)) (by rfl) (by rfl) (by decide +kernel) (by rfl) (by rfl) (by omega) (by omega) (by omega) (by omega) rfl ?_
  refine jT_xaload_n (v := (4, 0)) (pcN := 16) jI_140_15 rfl rfl rfl ?_
  refine jT_xiload_n (v := (0, 2)) (pcN := 17) jI_140_16 rfl rfl rfl ?_
  refine jT_xiconst (k := 0) (pcN := 18) jI_140_17 rfl ?_
  refine jT_xiconst (k := 2) (pcN := 19) jI_140_18 rfl ?_
  refine jT_fR [0] 21 (y := 116) (pcN := 22) (dC := 0) (bc1 := 0) (bc2 := 0) (c1 := 0) (c2 := 0) (as := [(4, 0), (0, 2), (0, 0), (0, 2)]) (asC := [(4, 0), (0, 2), (0, 0), (0, 2)]) (LN := [(0, (4, 0)), (1, (0, x1)), (2, (0, 4)), (3, (0, 2))]) (stN := []) (hsC := [jgh]) (v := (9, 0)) (st2 := []) (jA_116_1301 (d := 0)) (by rfl) (by rfl) (by decide +kernel) (by rfl) (by rfl) (by omega) (by omega) (by omega) (by omega) rfl ?_
  refine jT_xaload_n (v := (4, 0)) (pcN := 23) jI_140_22 rfl rfl rfl ?_
  refine jT_xaload_n (v := (4, 0)) (pcN := 24) jI_140_23 rfl rfl rfl ?_
  refine jT_xgetf (a := 0) (t := 1) (ci := 13) (fi := 11) (c := jzA_5) (v := (4, 11)) (pcN := 27) jI_140_24 rfl rfl rfl rfl rfl rfl rfl ?_
  refine jT_xiload_n (v := (0, x1)) (pcN := 28) jI_140_27 rfl rfl rfl ?_
  refine jT_fR [11, 14, 15, 16, 17, 18, 19] 21 (y := 57) (pcN := 31) (dC := 0) (bc1 := 0) (bc2 := 0) (c1 := 0) (c2 := 0) (as := [(4, 11), (0, x1)]) (asC := [(4, 0), (0, x1)]) (LN := [(0, (4, 0)), (1, (0, x1)), (2, (0, 4)), (3, (0, 2))]) (stN := [(4, 0)]) (hsC := jpA_47) (v := (4, 6)) (st2 := [(4, 19), (4, 0)]) (jA_57_108 (d := 0) (by omega)) (by rfl) (by rfl) (by decide +kernel) (by rfl) (by rfl) (by omega) (by omega) (by omega) (by omega) rfl ?_
  refine jT_xiload_n (v := (0, 4)) (pcN := 32) jI_140_31 rfl rfl rfl ?_
  refine jT_xiload_n (v := (0, 2)) (pcN := 33) jI_140_32 rfl rfl rfl ?_
  refine jT_fR [0, 19, 1, 2, 3, 4, 5, 6, 7, 8, 9, 10, 11, 20, 12, 13] 21 (y := 108) (pcN := 36) (dC := 4) (bc1 := 0) (bc2 := 0) (c1 := 0) (c2 := 0) (as := [(4, 0), (4, 19), (0, 4), (0, 2)]) (asC := [(4, 0), (4, 1), (0, 4), (0, 2)]) (LN := [(0, (4, 0)), (1, (0, x1)), (2, (0, 4)), (3, (0, 2))]) (stN := []) (hsC := jpA_4325) (v := (1, 0)) (st2 := [(1, 0)]) (jA_108_1402 (d := 0)) (by rfl) (by rfl) (by decide +kernel) (by rfl) (by rfl) (by omega) (by omega) (by omega) (by omega) rfl ?_
  exact jT_ret rfl (by decide) (by show 21 ≤ 21; decide) (by omega) (by omega) ⟨rfl, rfl, rfl⟩
theorem jA_347_1404 {xs : List Int} {d : Nat} {x1 : Int} (h_x1 : 0 ≤ x1 ∧ x1 ≤ 7) : jT xs (d + 6) 347 22 0 [(0, (4, 0)), (1, (0, x1)), (2, (0, 4)), (3, (0, 2)), (4, (4, 1))] [] jpA_4038 0 0 (fun k v hsN => k = 0 ∧ v = (0, 0) ∧ hsN = jpA_4038 ++ []) := by
  refine jT_xaload (v := (4, 1)) (pcN := 2) jI_347_0 rfl rfl rfl ?_
  refine jT_xiconst (k := 0) (pcN := 3) jI_347_2 rfl ?_
  refine jT_xaload_n (v := (4, 0)) (pcN := 4) jI_347_3 rfl rfl rfl ?_
  refine jT_xiload_n (v := (0, x1)) (pcN := 5) jI_347_4 rfl rfl rfl ?_
  refine jT_xiload_n (v := (0, 4)) (pcN := 6) jI_347_5 rfl rfl rfl ?_
  refine jT_xiload_n (v := (0, 2)) (pcN := 7) jI_347_6 rfl rfl rfl ?_
  refine jT_fR [0, 2, 3, 4, 5, 6, 7, 8, 9, 10, 11, 12, 13, 14, 15, 16, 17, 18, 19, 20, 21] 22 (y := 140) (pcN := 10) (dC := 5) (bc1 := 0) (bc2 := 0) (c1 := 0) (c2 := 0) (as := [(4, 0), (0, x1), (0, 4), (0, 2)]) (asC := [(4, 0), (0, x1), (0, 4), (0, 2)]) (LN := [(0, (4, 0)), (1, (0, x1)), (2, (0, 4)), (3, (0, 2)), (4, (4, 1))]) (stN := [(0, 0), (4, 1)]) (hsC := jpA_3958) (v := (1, 0)) (st2 := [(1, 0), (0, 0), (4, 1)]) (jA_140_1403 (d := 0) (by omega)) (by rfl) (by rfl) (by decide +kernel) (by rfl) (by rfl) (by omega) (by omega) (by omega) (by omega) rfl ?_
  refine jT_adv 1 (pcN := 11) (LN := [(0, (4, 0)), (1, (0, x1)), (2, (0, 4)), (3, (0, 2)), (4, (4, 1))]) (stN := []) (hsN := jpA_4038) (c1 := 0) (s1 := 0) (c2 := 0) (s2 := 0) (by exact rfl) ?_ (by omega) (by omega)
  refine jT_xgoto (pcN := 22) jI_347_11 rfl ?_
  refine jT_xiconst (k := 0) (pcN := 23) jI_347_22 rfl ?_
  exact jT_ret rfl (by decide) (by show 22 ≤ 22; decide) (by omega) (by omega) ⟨rfl, rfl, rfl⟩
theorem jA_265_1405 {xs : List Int} {d : Nat} : jT xs (d + 7) 265 22 0 [(0, (4, 0)), (1, (1, 10000)), (3, (0, 2))] [] jpA_684 10 360 (fun k v hsN => k = 0 ∧ v = (1, 0) ∧ hsN = jpA_684 ++ jpA_3654) := by
  refine jT_advK 4 (pcN := 6) (LN := [(0, (4, 0)), (1, (1, 10000)), (3, (0, 2))]) (stN := [(1, 12000000), (4, 0)]) (hsN := jpA_684) (c1 := 0) (s1 := 0) (c2 := 10) (s2 := 360) (by decide +kernel) ?_ (by omega) (by omega)
  refine jT_fA [0, 1, 2, 3, 4, 5, 6, 7, 8, 9, 10, 11, 12, 13, 14, 15] 22 (y := 218) (pcN := 9) (dC := 0) (bc1 := 1) (bc2 := 6) (c1 := 9) (c2 := 354) (as := [(4, 0), (1, 12000000)]) (asC := [(4, 0), (1, 12000000)]) (LN := [(0, (4, 0)), (1, (1, 10000)), (3, (0, 2))]) (stN := []) (hsC := jpA_147) (ex := [(101, [], [0, 0, 0, 0, 0, 0])]) (v := (4, 16)) (st2 := [(4, 22)]) (hs2 := jpA_3652) (jA_218_1391 (d := 0)) (by rfl) (by rfl) (by decide +kernel) (by rfl) (by rfl) (by omega) (by omega) (by omega) (by omega) rfl (by decide +kernel) ?_
  refine jT_advK 8 (pcN := 23) (LN := [(4, (4, 22)), (0, (4, 0)), (1, (1, 10000)), (3, (0, 2))]) (stN := [(1, 1), (4, 22), (4, 0)]) (hsN := jpA_3652) (c1 := 0) (s1 := 0) (c2 := 9) (s2 := 354) (by decide +kernel) ?_ (by omega) (by omega)
  refine jT_fA [0, 22, 1, 2, 3, 4, 5, 6, 7, 8, 9, 10, 11, 12, 13, 14, 15, 16, 17, 18, 19, 20, 21] 23 (y := 216) (pcN := 26) (dC := 6) (bc1 := 9) (bc2 := 354) (c1 := 0) (c2 := 0) (as := [(4, 0), (4, 22), (1, 1)]) (asC := [(4, 0), (4, 1), (1, 1)]) (LN := [(4, (4, 22)), (0, (4, 0)), (1, (1, 10000)), (3, (0, 2))]) (stN := []) (hsC := jpA_987) (ex := jpA_839) (v := (1, 0)) (st2 := [(1, 0)]) (hs2 := jpA_3653) (jA_216_228 (d := 0)) (by rfl) (by rfl) (by decide +kernel) (by rfl) (by rfl) (by omega) (by omega) (by omega) (by omega) rfl (by decide +kernel) ?_
  exact jT_ret rfl (by decide) (by show 22 ≤ 32; decide) (by omega) (by omega) ⟨rfl, rfl, rfl⟩
theorem jA_263_1406 {xs : List Int} {d : Nat} {x1 : Int} (h_x1 : 0 ≤ x1 ∧ x1 ≤ 7) : jT xs (d + 8) 263 22 0 [(0, (4, 0)), (1, (0, x1)), (2, (0, 4)), (3, (0, 2))] [] jpA_1695 10 360 (fun k v hsN => k = 0 ∧ v = (1, 0) ∧ hsN = jpA_1695 ++ jpA_3654) := by
  refine jT_xaload_n (v := (4, 0)) (pcN := 1) jI_263_0 rfl rfl rfl ?_
  refine jT_xiload_n (v := (0, x1)) (pcN := 2) jI_263_1 rfl rfl rfl ?_
  refine jT_fR [] 22 (y := 188) (pcN := 5) (dC := 1) (bc1 := 0) (bc2 := 0) (c1 := 10) (c2 := 360) (as := [(0, x1)]) (asC := [(0, x1)]) (LN := [(0, (4, 0)), (1, (0, x1)), (2, (0, 4)), (3, (0, 2))]) (stN := [(4, 0)]) (hsC := []) (v := (0, 1)) (st2 := [(0, 1), (4, 0)]) (jA_188_13 (d := 0) (by omega)) (by rfl) (by rfl) (by decide +kernel) (by rfl) (by rfl) (by omega) (by omega) (by omega) (by omega) rfl ?_
  refine jT_fR [0, 1, 2, 3, 4, 5, 6, 7, 8, 9, 10, 11, 12, 13, 14, 15] 22 (y := 190) (pcN := 8) (dC := 1) (bc1 := 0) (bc2 := 0) (c1 := 10) (c2 := 360) (as := [(4, 0), (0, 1)]) (asC := [(4, 0), (0, 1)]) (LN := [(0, (4, 0)), (1, (0, x1)), (2, (0, 4)), (3, (0, 2))]) (stN := []) (hsC := jpA_22) (v := (0, 0)) (st2 := [(0, 0)]) (jA_190_39 (d := 0)) (by rfl) (by rfl) (by decide +kernel) (by rfl) (by rfl) (by omega) (by omega) (by omega) (by omega) rfl ?_
  refine jT_xifF (t := 48) (pcN := 11) jI_263_8 rfl (by decide +kernel) rfl rfl ?_
  refine jT_xaload_n (v := (4, 0)) (pcN := 12) jI_263_11 rfl rfl rfl ?_
  refine jT_xiload_n (v := (0, 4)) (pcN := 13) jI_263_12 rfl rfl rfl ?_
  refine jT_xi2l (x := 4) (z := 4) (pcN := 14) jI_263_13 rfl (by decide +kernel) rfl ?_
  refine jT_xlconst (z := 0) (pcN := 15) jI_263_14 rfl rfl ?_
  refine jT_adv 1 (pcN := 18) (LN := [(0, (4, 0)), (1, (0, x1)), (2, (0, 4)), (3, (0, 2))]) (stN := [(1, 9), (1, 0), (1, 4), (4, 0)]) (hsN := jpA_1695) (c1 := 0) (s1 := 0) (c2 := 10) (s2 := 360) (by exact rfl) ?_ (by omega) (by omega)
  refine jT_fR [] 22 (y := 189) (pcN := 21) (dC := 0) (bc1 := 0) (bc2 := 0) (c1 := 10) (c2 := 360) (as := [(1, 4), (1, 0), (1, 9)]) (asC := [(1, 4), (1, 0), (1, 9)]) (LN := [(0, (4, 0)), (1, (0, x1)), (2, (0, 4)), (3, (0, 2))]) (stN := [(4, 0)]) (hsC := []) (v := (0, 1)) (st2 := [(0, 1), (4, 0)]) (jA_189_1389 (d := 0)) (by rfl) (by rfl) (by decide +kernel) (by rfl) (by rfl) (by omega) (by omega) (by omega) (by omega) rfl ?_
  refine jT_xifF (t := 40) (pcN := 24) jI_263_21 rfl (by decide +kernel) rfl rfl ?_
  refine jT_xiload_n (v := (0, 2)) (pcN := 25) jI_263_24 rfl rfl rfl ?_
  refine jT_xi2l (x := 2) (z := 2) (pcN := 26) jI_263_25 rfl (by decide +kernel) rfl ?_
  refine jT_xlconst (z := 0) (pcN := 27) jI_263_26 rfl rfl ?_
  refine jT_adv 1 (pcN := 30) (LN := [(0, (4, 0)), (1, (0, x1)), (2, (0, 4)), (3, (0, 2))]) (stN := [(1, 2), (1, 0), (1, 2), (4, 0)]) (hsN := jpA_1695) (c1 := 0) (s1 := 0) (c2 := 10) (s2 := 360) (by exact rfl) ?_ (by omega) (by omega)
  refine jT_fR [] 22 (y := 189) (pcN := 33) (dC := 0) (bc1 := 0) (bc2 := 0) (c1 := 10) (c2 := 360) (as := [(1, 2), (1, 0), (1, 2)]) (asC := [(1, 2), (1, 0), (1, 2)]) (LN := [(0, (4, 0)), (1, (0, x1)), (2, (0, 4)), (3, (0, 2))]) (stN := [(4, 0)]) (hsC := []) (v := (0, 1)) (st2 := [(0, 1), (4, 0)]) (jA_189_1305 (d := 0)) (by rfl) (by rfl) (by decide +kernel) (by rfl) (by rfl) (by omega) (by omega) (by omega) (by omega) rfl ?_
  refine jT_xifF (t := 40) (pcN := 36) jI_263_33 rfl (by decide +kernel) rfl rfl ?_
  refine jT_xiconst (k := 1) (pcN := 37) jI_263_36 rfl ?_
  refine jT_xgoto (pcN := 41) jI_263_37 rfl ?_
  refine jT_xiconst (k := 2) (pcN := 42) jI_263_41 rfl ?_
  refine jT_fR [0] 22 (y := 191) (pcN := 45) (dC := 0) (bc1 := 0) (bc2 := 0) (c1 := 10) (c2 := 360) (as := [(4, 0), (0, 1), (0, 2)]) (asC := [(4, 0), (0, 1), (0, 2)]) (LN := [(0, (4, 0)), (1, (0, x1)), (2, (0, 4)), (3, (0, 2))]) (stN := []) (hsC := [jgh]) (v := (0, 0)) (st2 := [(0, 0)]) (jA_191_49 (d := 0)) (by rfl) (by rfl) (by decide +kernel) (by rfl) (by rfl) (by omega) (by omega) (by omega) (by omega) rfl ?_
  refine jT_xifT (pcN := 50) jI_263_45 rfl (by decide +kernel) rfl ?_
  refine jT_xaload_n (v := (4, 0)) (pcN := 51) jI_263_50 rfl rfl rfl ?_
  refine jT_xiload_n (v := (0, x1)) (pcN := 52) jI_263_51 rfl rfl rfl ?_
  refine jT_fR [0, 1, 2, 3, 4, 5, 6, 7, 8, 9, 10, 11, 12, 13, 14, 15] 22 (y := 202) (pcN := 55) (dC := 1) (bc1 := 0) (bc2 := 0) (c1 := 10) (c2 := 360) (as := [(4, 0), (0, x1)]) (asC := [(4, 0), (0, x1)]) (LN := [(0, (4, 0)), (1, (0, x1)), (2, (0, 4)), (3, (0, 2))]) (stN := []) (hsC := jpA_130) (v := (9, 0)) (st2 := []) (jA_202_115 (d := 0) (by omega)) (by rfl) (by rfl) (by decide +kernel) (by rfl) (by rfl) (by omega) (by omega) (by omega) (by omega) rfl ?_
  refine jT_xaload_n (v := (4, 0)) (pcN := 56) jI_263_55 rfl rfl rfl ?_
  refine jT_xiload_n (v := (0, 4)) (pcN := 57) jI_263_56 rfl rfl rfl ?_
  refine jT_fR [] 22 (y := 264) (pcN := 60) (dC := 0) (bc1 := 0) (bc2 := 0) (c1 := 10) (c2 := 360) (as := [(0, 4)]) (asC := [(0, 4)]) (LN := [(0, (4, 0)), (1, (0, x1)), (2, (0, 4)), (3, (0, 2))]) (stN := [(4, 0)]) (hsC := []) (v := (1, 10000)) (st2 := [(1, 10000), (4, 0)]) (jA_264_1390 (d := 0)) (by rfl) (by rfl) (by decide +kernel) (by rfl) (by rfl) (by omega) (by omega) (by omega) (by omega) rfl ?_
  refine jT_xiload_n (v := (0, 2)) (pcN := 61) jI_263_60 rfl rfl rfl ?_
  refine jT_fA [0, 1, 2, 3, 4, 5, 6, 7, 8, 9, 10, 11, 12, 13, 14, 15, 16, 17, 18, 19, 20, 21] 22 (y := 265) (pcN := 64) (dC := 7) (bc1 := 10) (bc2 := 360) (c1 := 0) (c2 := 0) (as := [(4, 0), (1, 10000), (0, 2)]) (asC := [(4, 0), (1, 10000), (0, 2)]) (LN := [(0, (4, 0)), (1, (0, x1)), (2, (0, 4)), (3, (0, 2))]) (stN := []) (hsC := jpA_684) (ex := jpA_3654) (v := (1, 0)) (st2 := [(1, 0)]) (hs2 := jpA_3655) (jA_265_1405 (d := 0)) (by rfl) (by rfl) (by decide +kernel) (by rfl) (by rfl) (by omega) (by omega) (by omega) (by omega) rfl (by decide +kernel) ?_
  exact jT_ret rfl (by decide) (by show 22 ≤ 32; decide) (by omega) (by omega) ⟨rfl, rfl, rfl⟩
theorem jA_116_1407 {xs : List Int} {d : Nat} {x2 : Int} (h_x2 : 5 ≤ x2 ∧ x2 ≤ 9) : jT xs d 116 1 0 [(0, (4, 0)), (1, (0, x2)), (2, (0, 0)), (3, (0, 9))] [] [jgh] 0 0 (fun k v hsN => k = 0 ∧ v = (9, 0) ∧ hsN = [jgh] ++ []) := by
  refine jT_xiload_n (v := (0, x2)) (pcN := 1) jI_116_0 rfl rfl rfl ?_
  refine jT_xiload_n (v := (0, 0)) (pcN := 2) jI_116_1 rfl rfl rfl ?_
  refine jT_icF (a := x2) (b := 0) (t := 10) (by rfl) (by rfl) (by rfl) (jw_idd (by omega) (by omega)) (jw_idd (by omega) (by omega)) (by simp only [jcP] <;> omega) ?_
  refine jT_xiload_n (v := (0, x2)) (pcN := 6) jI_116_5 rfl rfl rfl ?_
  refine jT_xiload_n (v := (0, 9)) (pcN := 7) jI_116_6 rfl rfl rfl ?_
  refine jT_icT (a := x2) (b := 9) (t := 21) (by rfl) (by rfl) (by rfl) (jw_idd (by omega) (by omega)) (jw_idd (by omega) (by omega)) (by simp only [jcP] <;> omega) ?_
  exact jT_ret rfl (by decide) (by show 1 ≤ 1; decide) (by omega) (by omega) ⟨rfl, rfl, rfl⟩
theorem jA_116_1408 {xs : List Int} {d : Nat} : jT xs d 116 1 0 [(0, (4, 0)), (1, (0, 5)), (2, (0, 0)), (3, (0, 9))] [] [jgh] 0 0 (fun k v hsN => k = 0 ∧ v = (9, 0) ∧ hsN = [jgh] ++ []) := by
  refine jT_advK 6 (pcN := 21) (LN := [(0, (4, 0)), (1, (0, 5)), (2, (0, 0)), (3, (0, 9))]) (stN := []) (hsN := [jgh]) (c1 := 0) (s1 := 0) (c2 := 0) (s2 := 0) (by decide +kernel) ?_ (by omega) (by omega)
  exact jT_ret rfl (by decide) (by show 1 ≤ 1; decide) (by omega) (by omega) ⟨rfl, rfl, rfl⟩
theorem jA_45_1409 {xs : List Int} {d : Nat} : jT xs (d + 1) 45 4 0 [(0, (4, 0)), (1, (4, 1)), (2, (1, 1)), (4, (1, 120000000))] [] jpA_625 0 0 (fun k v hsN => k = 0 ∧ v = (1, 0) ∧ hsN = jpA_625 ++ []) := by
  refine jT_advK 10 (pcN := 17) (LN := [(0, (4, 0)), (1, (4, 1)), (2, (1, 1)), (4, (1, 120000000))]) (stN := [(4, 1), (4, 0)]) (hsN := jpA_625) (c1 := 0) (s1 := 0) (c2 := 0) (s2 := 0) (by decide +kernel) ?_ (by omega) (by omega)
  refine jT_fR [0, 1] 4 (y := 39) (pcN := 20) (dC := 0) (bc1 := 0) (bc2 := 0) (c1 := 0) (c2 := 0) (as := [(4, 0), (4, 1)]) (asC := [(4, 0), (4, 1)]) (LN := [(0, (4, 0)), (1, (4, 1)), (2, (1, 1)), (4, (1, 120000000))]) (stN := []) (hsC := [jgh, (101, [], [0, 0, 0, 0, 0, 0])]) (v := (1, 0)) (st2 := [(1, 0)]) (jA_39_144 (d := 0)) (by rfl) (by rfl) (by decide +kernel) (by rfl) (by rfl) (by omega) (by omega) (by omega) (by omega) rfl ?_
  refine jT_advK 11 (pcN := 36) (LN := [(6, (1, 0)), (0, (4, 0)), (1, (4, 1)), (2, (1, 1)), (4, (1, 120000000))]) (stN := [(1, 1), (1, 0)]) (hsN := jpA_625) (c1 := 0) (s1 := 0) (c2 := 0) (s2 := 0) (by decide +kernel) ?_ (by omega) (by omega)
  refine jT_fR [] 4 (y := 373) (pcN := 39) (dC := 0) (bc1 := 0) (bc2 := 0) (c1 := 0) (c2 := 0) (as := [(1, 0), (1, 1)]) (asC := [(1, 0), (1, 1)]) (LN := [(6, (1, 0)), (0, (4, 0)), (1, (4, 1)), (2, (1, 1)), (4, (1, 120000000))]) (stN := []) (hsC := []) (v := (1, 0)) (st2 := [(1, 0)]) (jA_373_145 (d := 0)) (by rfl) (by rfl) (by decide +kernel) (by rfl) (by rfl) (by omega) (by omega) (by omega) (by omega) rfl ?_
  exact jT_ret rfl (by decide) (by show 4 ≤ 4; decide) (by omega) (by omega) ⟨rfl, rfl, rfl⟩
theorem jA_44_1410 {xs : List Int} {d : Nat} : jT xs (d + 2) 44 5 0 [(0, (4, 0)), (1, (4, 1)), (2, (1, 120000000))] [] jpA_626 0 0 (fun k v hsN => k = 0 ∧ v = (1, 0) ∧ hsN = jpA_626 ++ []) := by
  refine jT_advK 6 (pcN := 10) (LN := [(0, (4, 0)), (1, (4, 1)), (2, (1, 120000000))]) (stN := [(1, 120000000), (1, 1), (4, 4), (4, 0)]) (hsN := jpA_626) (c1 := 0) (s1 := 0) (c2 := 0) (s2 := 0) (by decide +kernel) ?_ (by omega) (by omega)
  refine jT_fR [0, 4, 2, 3] 5 (y := 45) (pcN := 13) (dC := 1) (bc1 := 0) (bc2 := 0) (c1 := 0) (c2 := 0) (as := [(4, 0), (4, 4), (1, 1), (1, 120000000)]) (asC := [(4, 0), (4, 1), (1, 1), (1, 120000000)]) (LN := [(0, (4, 0)), (1, (4, 1)), (2, (1, 120000000))]) (stN := []) (hsC := jpA_625) (v := (1, 0)) (st2 := [(1, 0)]) (jA_45_1409 (d := 0)) (by rfl) (by rfl) (by decide +kernel) (by rfl) (by rfl) (by omega) (by omega) (by omega) (by omega) rfl ?_
  exact jT_ret rfl (by decide) (by show 5 ≤ 5; decide) (by omega) (by omega) ⟨rfl, rfl, rfl⟩
theorem jA_108_1411 {xs : List Int} {d : Nat} : jT xs (d + 3) 108 16 0 [(0, (4, 0)), (1, (4, 1)), (2, (0, 5)), (3, (0, 0))] [] jpA_4325 0 0 (fun k v hsN => k = 0 ∧ v = (1, 0) ∧ hsN = jpA_4325 ++ []) := by
  refine jT_advK 61 (pcN := 55) (LN := [(6, (0, 5)), (4, (1, 120000000)), (0, (4, 0)), (1, (4, 1)), (2, (0, 5)), (3, (0, 0))]) (stN := [(1, 120000000), (4, 1), (4, 2)]) (hsN := jpA_4325) (c1 := 0) (s1 := 0) (c2 := 0) (s2 := 0) (by decide +kernel) ?_ (by omega) (by omega)
  refine jT_fR [2, 1, 14, 15, 13] 16 (y := 44) (pcN := 58) (dC := 2) (bc1 := 0) (bc2 := 0) (c1 := 0) (c2 := 0) (as := [(4, 2), (4, 1), (1, 120000000)]) (asC := [(4, 0), (4, 1), (1, 120000000)]) (LN := [(6, (0, 5)), (4, (1, 120000000)), (0, (4, 0)), (1, (4, 1)), (2, (0, 5)), (3, (0, 0))]) (stN := []) (hsC := jpA_626) (v := (1, 0)) (st2 := [(1, 0)]) (jA_44_1410 (d := 0)) (by rfl) (by rfl) (by decide +kernel) (by rfl) (by rfl) (by omega) (by omega) (by omega) (by omega) rfl ?_
  exact jT_ret rfl (by decide) (by show 16 ≤ 16; decide) (by omega) (by omega) ⟨rfl, rfl, rfl⟩
theorem jA_140_1412 {xs : List Int} {d : Nat} {x1 : Int} (h_x1 : 0 ≤ x1 ∧ x1 ≤ 7) : jT xs (d + 4) 140 21 0 [(0, (4, 0)), (1, (0, x1)), (2, (0, 5)), (3, (0, 0))] [] jpA_3958 0 0 (fun k v hsN => k = 0 ∧ v = (1, 0) ∧ hsN = jpA_3958 ++ []) := by
  refine jT_xaload_n (v := (4, 0)) (pcN := 1) jI_140_0 rfl rfl rfl ?_
  refine jT_xiload_n (v := (0, x1)) (pcN := 2) jI_140_1 rfl rfl rfl ?_
  refine jT_xbipush (k := 8) (pcN := 4) jI_140_2 (by decide) rfl ?_
  refine jT_fR [0] 21 (y := 115) (pcN := 7) (dC := 0) (bc1 := 0) (bc2 := 0) (c1 := 0) (c2 := 0) (as := [(4, 0), (0, x1), (0, 8)]) (asC := [(4, 0), (0, x1), (0, 8)]) (LN := [(0, (4, 0)), (1, (0, x1)), (2, (0, 5)), (3, (0, 0))]) (stN := []) (hsC := [jgh]) (v := (9, 0)) (st2 := []) (jA_115_9 (d := 0) (by omega)) (by rfl) (by rfl) (by decide +kernel) (by rfl) (by rfl) (by omega) (by omega) (by omega) (by omega) rfl ?_
  refine jT_xaload_n (v := (4, 0)) (pcN := 8) jI_140_7 rfl rfl rfl ?_
  refine jT_xiload_n (v := (0, 5)) (pcN := 9) jI_140_8 rfl rfl rfl ?_
  refine jT_xiconst (k := 0) (pcN := 10) jI_140_9 rfl ?_
  refine jT_xbipush (k := 9) (pcN := 12) jI_140_10 (by decide) rfl ?_
  refine jT_fR [0] 21 (y := 116) (pcN := 15) (dC := 0) (bc1 := 0) (bc2 := 0) (c1 := 0) (c2 := 0) (as := [(4, 0), (0, 5), (0, 0), (0, 9)]) (asC := [(4, 0), (0, 5), (0, 0), (0, 9)]) (LN := [(0, (4, 0)), (1, (0, x1)), (2, (0, 5)), (3, (0, 0))]) (stN := []) (hsC := [jgh]) (v := (9, 0)) (st2 := []) (jA_116_1408 (d := 0)) (by rfl) (by rfl) (by decide +kernel) (by rfl) (by rfl) (by omega) (by omega) (by omega) (by omega) rfl ?_
  refine jT_xaload_n (v := (4, 0)) (pcN := 16) jI_140_15 rfl rfl rfl ?_
  refine jT_xiload_n (v := (0, 0)) (pcN := 17) jI_140_16 rfl rfl rfl ?_
  refine jT_xiconst (k := 0) (pcN := 18) jI_140_17 rfl ?_
  refine jT_xiconst (k := 2) (pcN := 19) jI_140_18 rfl ?_
  refine jT_fR [0] 21 (y := 116) (pcN := 22) (dC := 0) (bc1 := 0) (bc2 := 0) (c1 := 0) (c2 := 0) (as := [(4, 0), (0, 0), (0, 0), (0, 2)]) (asC := [(4, 0), (0, 0), (0, 0), (0, 2)]) (LN := [(0, (4, 0)), (1, (0, x1)), (2, (0, 5)), (3, (0, 0))]) (stN := []) (hsC := [jgh]) (v := (9, 0)) (st2 := []) (jA_116_1279 (d := 0)) (by rfl) (by rfl) (by decide +kernel) (by rfl) (by rfl) (by omega) (by omega) (by omega) (by omega) rfl ?_
  refine jT_xaload_n (v := (4, 0)) (pcN := 23) jI_140_22 rfl rfl rfl ?_
  refine jT_xaload_n (v := (4, 0)) (pcN := 24) jI_140_23 rfl rfl rfl ?_
  refine jT_xgetf (a := 0) (t := 1) (ci := 13) (fi := 11) (c := jzA_5) (v := (4, 11)) (pcN := 27) jI_140_24 rfl rfl rfl rfl rfl rfl rfl ?_
  refine jT_xiload_n (v := (0, x1)) (pcN := 28) jI_140_27 rfl rfl rfl ?_
  refine jT_fR [11, 14, 15, 16, 17, 18, 19] 21 (y := 57) (pcN := 31) (dC := 0) (bc1 := 0) (bc2 := 0) (c1 := 0) (c2 := 0) (as := [(4, 11), (0, x1)]) (asC := [(4, 0), (0, x1)]) (LN := [(0, (4, 0)), (1, (0, x1)), (2, (0, 5)), (3, (0, 0))]) (stN := [(4, 0)]) (hsC := jpA_47) (v := (4, 6)) (st2 := [(4, 19), (4, 0)]) (jA_57_108 (d := 0) (by omega)) (by rfl) (by rfl) (by decide +kernel) (by rfl) (by rfl) (by omega) (by omega) (by omega) (by omega) rfl ?_
  refine jT_xiload_n (v := (0, 5)) (pcN := 32) jI_140_31 rfl rfl rfl ?_
  refine jT_xiload_n (v := (0, 0)) (pcN := 33) jI_140_32 rfl rfl rfl ?_
  refine jT_fR [0, 19, 1, 2, 3, 4, 5, 6, 7, 8, 9, 10, 11, 20, 12, 13] 21 (y := 108) (pcN := 36) (dC := 3) (bc1 := 0) (bc2 := 0) (c1 := 0) (c2 := 0) (as := [(4, 0), (4, 19), (0, 5), (0, 0)]) (asC := [(4, 0), (4, 1), (0, 5), (0, 0)]) (LN := [(0, (4, 0)), (1, (0, x1)), (2, (0, 5)), (3, (0, 0))]) (stN := []) (hsC := jpA_4325) (v := (1, 0)) (st2 := [(1, 0)]) (jA_108_1411 (d := 0)) (by rfl) (by rfl) (by decide +kernel) (by rfl) (by rfl) (by omega) (by omega) (by omega) (by omega) rfl ?_
  exact jT_ret rfl (by decide) (by show 21 ≤ 21; decide) (by omega) (by omega) ⟨rfl, rfl, rfl⟩
theorem jA_347_1413 {xs : List Int} {d : Nat} {x1 : Int} (h_x1 : 0 ≤ x1 ∧ x1 ≤ 7) : jT xs (d + 5) 347 22 0 [(0, (4, 0)), (1, (0, x1)), (2, (0, 5)), (3, (0, 0)), (4, (4, 1))] [] jpA_4038 0 0 (fun k v hsN => k = 0 ∧ v = (0, 0) ∧ hsN = jpA_4038 ++ []) := by
  refine jT_xaload (v := (4, 1)) (pcN := 2) jI_347_0 rfl rfl rfl ?_
  refine jT_xiconst (k := 0) (pcN := 3) jI_347_2 rfl ?_
  refine jT_xaload_n (v := (4, 0)) (pcN := 4) jI_347_3 rfl rfl rfl ?_
  refine jT_xiload_n (v := (0, x1)) (pcN := 5) jI_347_4 rfl rfl rfl ?_
  refine jT_xiload_n (v := (0, 5)) (pcN := 6) jI_347_5 rfl rfl rfl ?_
  refine jT_xiload_n (v := (0, 0)) (pcN := 7) jI_347_6 rfl rfl rfl ?_
  refine jT_fR [0, 2, 3, 4, 5, 6, 7, 8, 9, 10, 11, 12, 13, 14, 15, 16, 17, 18, 19, 20, 21] 22 (y := 140) (pcN := 10) (dC := 4) (bc1 := 0) (bc2 := 0) (c1 := 0) (c2 := 0) (as := [(4, 0), (0, x1), (0, 5), (0, 0)]) (asC := [(4, 0), (0, x1), (0, 5), (0, 0)]) (LN := [(0, (4, 0)), (1, (0, x1)), (2, (0, 5)), (3, (0, 0)), (4, (4, 1))]) (stN := [(0, 0), (4, 1)]) (hsC := jpA_3958) (v := (1, 0)) (st2 := [(1, 0), (0, 0), (4, 1)]) (jA_140_1412 (d := 0) (by omega)) (by rfl) (by rfl) (by decide +kernel) (by rfl) (by rfl) (by omega) (by omega) (by omega) (by omega) rfl ?_
  refine jT_adv 1 (pcN := 11) (LN := [(0, (4, 0)), (1, (0, x1)), (2, (0, 5)), (3, (0, 0)), (4, (4, 1))]) (stN := []) (hsN := jpA_4038) (c1 := 0) (s1 := 0) (c2 := 0) (s2 := 0) (by exact rfl) ?_ (by omega) (by omega)
  refine jT_xgoto (pcN := 22) jI_347_11 rfl ?_
  refine jT_xiconst (k := 0) (pcN := 23) jI_347_22 rfl ?_
  exact jT_ret rfl (by decide) (by show 22 ≤ 22; decide) (by omega) (by omega) ⟨rfl, rfl, rfl⟩
theorem jA_189_1414 {xs : List Int} {d : Nat} : jT xs d 189 0 0 [(0, (1, 5)), (2, (1, 0)), (4, (1, 9))] [] [] 0 0 (fun k v hsN => k = 0 ∧ v = (0, 1) ∧ hsN = [] ++ []) := by
  refine jT_advK 10 (pcN := 18) (LN := [(0, (1, 5)), (2, (1, 0)), (4, (1, 9))]) (stN := [(0, 1)]) (hsN := []) (c1 := 0) (s1 := 0) (c2 := 0) (s2 := 0) (by decide +kernel) ?_ (by omega) (by omega)
  exact jT_ret rfl (by decide) (by show 0 ≤ 0; decide) (by omega) (by omega) ⟨rfl, rfl, rfl⟩
theorem jA_264_1415 {xs : List Int} {d : Nat} : jT xs d 264 0 0 [(0, (0, 5))] [] [] 0 0 (fun k v hsN => k = 0 ∧ v = (1, 100000) ∧ hsN = [] ++ []) := by
  refine jT_advK 53 (pcN := 22) (LN := [(3, (0, 5)), (1, (1, 100000)), (0, (0, 5))]) (stN := [(1, 100000)]) (hsN := []) (c1 := 0) (s1 := 0) (c2 := 0) (s2 := 0) (by decide +kernel) ?_ (by omega) (by omega)
  exact jT_ret rfl (by decide) (by show 0 ≤ 0; decide) (by omega) (by omega) ⟨rfl, rfl, rfl⟩
theorem jA_218_1416 {xs : List Int} {d : Nat} : jT xs d 218 16 0 [(0, (4, 0)), (1, (1, 120000000))] [] jpA_147 1 6 (fun k v hsN => k = 0 ∧ v = (4, 16) ∧ hsN = jpA_147 ++ [(101, [], [0, 0, 0, 0, 0, 0])]) := by
  refine jT_advK 93 (pcN := 35) (LN := [(4, (0, 6)), (3, (4, 16)), (0, (4, 0)), (1, (1, 120000000))]) (stN := [(4, 16)]) (hsN := jpA_984) (c1 := 1) (s1 := 6) (c2 := 0) (s2 := 0) (by decide +kernel) ?_ (by omega) (by omega)
  exact jT_ret rfl (by decide) (by show 16 ≤ 17; decide) (by omega) (by omega) ⟨rfl, rfl, rfl⟩
theorem jA_265_1417 {xs : List Int} {d : Nat} : jT xs (d + 6) 265 22 0 [(0, (4, 0)), (1, (1, 100000)), (3, (0, 0))] [] jpA_684 6 186 (fun k v hsN => k = 0 ∧ v = (1, 0) ∧ hsN = jpA_684 ++ jpA_4341) := by
  refine jT_advK 4 (pcN := 6) (LN := [(0, (4, 0)), (1, (1, 100000)), (3, (0, 0))]) (stN := [(1, 120000000), (4, 0)]) (hsN := jpA_684) (c1 := 0) (s1 := 0) (c2 := 6) (s2 := 186) (by decide +kernel) ?_ (by omega) (by omega)
  refine jT_fA [0, 1, 2, 3, 4, 5, 6, 7, 8, 9, 10, 11, 12, 13, 14, 15] 22 (y := 218) (pcN := 9) (dC := 0) (bc1 := 1) (bc2 := 6) (c1 := 5) (c2 := 180) (as := [(4, 0), (1, 120000000)]) (asC := [(4, 0), (1, 120000000)]) (LN := [(0, (4, 0)), (1, (1, 100000)), (3, (0, 0))]) (stN := []) (hsC := jpA_147) (ex := [(101, [], [0, 0, 0, 0, 0, 0])]) (v := (4, 16)) (st2 := [(4, 22)]) (hs2 := jpA_3652) (jA_218_1416 (d := 0)) (by rfl) (by rfl) (by decide +kernel) (by rfl) (by rfl) (by omega) (by omega) (by omega) (by omega) rfl (by decide +kernel) ?_
  refine jT_advK 8 (pcN := 34) (LN := [(4, (4, 22)), (0, (4, 0)), (1, (1, 100000)), (3, (0, 0))]) (stN := [(1, 1), (4, 22), (4, 0)]) (hsN := jpA_3652) (c1 := 0) (s1 := 0) (c2 := 5) (s2 := 180) (by decide +kernel) ?_ (by omega) (by omega)
  refine jT_fA [0, 22, 1, 2, 3, 4, 5, 6, 7, 8, 9, 10, 11, 12, 13, 14, 15, 16, 17, 18, 19, 20, 21] 23 (y := 210) (pcN := 37) (dC := 5) (bc1 := 5) (bc2 := 180) (c1 := 0) (c2 := 0) (as := [(4, 0), (4, 22), (1, 1)]) (asC := [(4, 0), (4, 1), (1, 1)]) (LN := [(4, (4, 22)), (0, (4, 0)), (1, (1, 100000)), (3, (0, 0))]) (stN := []) (hsC := jpA_987) (ex := jpA_683) (v := (1, 0)) (st2 := [(1, 0)]) (hs2 := jpA_4340) (jA_210_1290 (d := 0)) (by rfl) (by rfl) (by decide +kernel) (by rfl) (by rfl) (by omega) (by omega) (by omega) (by omega) rfl (by decide +kernel) ?_
  refine jT_advK 5 (pcN := 68) (LN := [(5, (1, 0)), (4, (4, 22)), (0, (4, 0)), (1, (1, 100000)), (3, (0, 0))]) (stN := [(1, 0)]) (hsN := jpA_4340) (c1 := 0) (s1 := 0) (c2 := 0) (s2 := 0) (by decide +kernel) ?_ (by omega) (by omega)
  exact jT_ret rfl (by decide) (by show 22 ≤ 28; decide) (by omega) (by omega) ⟨rfl, rfl, rfl⟩
theorem jA_263_1418 {xs : List Int} {d : Nat} {x1 : Int} (h_x1 : 0 ≤ x1 ∧ x1 ≤ 7) : jT xs (d + 7) 263 22 0 [(0, (4, 0)), (1, (0, x1)), (2, (0, 5)), (3, (0, 0))] [] jpA_1695 6 186 (fun k v hsN => k = 0 ∧ v = (1, 0) ∧ hsN = jpA_1695 ++ jpA_4341) := by
  refine jT_xaload_n (v := (4, 0)) (pcN := 1) jI_263_0 rfl rfl rfl ?_
  refine jT_xiload_n (v := (0, x1)) (pcN := 2) jI_263_1 rfl rfl rfl ?_
  refine jT_fR [] 22 (y := 188) (pcN := 5) (dC := 1) (bc1 := 0) (bc2 := 0) (c1 := 6) (c2 := 186) (as := [(0, x1)]) (asC := [(0, x1)]) (LN := [(0, (4, 0)), (1, (0, x1)), (2, (0, 5)), (3, (0, 0))]) (stN := [(4, 0)]) (hsC := []) (v := (0, 1)) (st2 := [(0, 1), (4, 0)]) (jA_188_13 (d := 0) (by omega)) (by rfl) (by rfl) (by decide +kernel) (by rfl) (by rfl) (by omega) (by omega) (by omega) (by omega) rfl ?_
  refine jT_fR [0, 1, 2, 3, 4, 5, 6, 7, 8, 9, 10, 11, 12, 13, 14, 15] 22 (y := 190) (pcN := 8) (dC := 1) (bc1 := 0) (bc2 := 0) (c1 := 6) (c2 := 186) (as := [(4, 0), (0, 1)]) (asC := [(4, 0), (0, 1)]) (LN := [(0, (4, 0)), (1, (0, x1)), (2, (0, 5)), (3, (0, 0))]) (stN := []) (hsC := jpA_22) (v := (0, 0)) (st2 := [(0, 0)]) (jA_190_39 (d := 0)) (by rfl) (by rfl) (by decide +kernel) (by rfl) (by rfl) (by omega) (by omega) (by omega) (by omega) rfl ?_
  refine jT_xifF (t := 48) (pcN := 11) jI_263_8 rfl (by decide +kernel) rfl rfl ?_
  refine jT_xaload_n (v := (4, 0)) (pcN := 12) jI_263_11 rfl rfl rfl ?_
  refine jT_xiload_n (v := (0, 5)) (pcN := 13) jI_263_12 rfl rfl rfl ?_
  refine jT_xi2l (x := 5) (z := 5) (pcN := 14) jI_263_13 rfl (by decide +kernel) rfl ?_
  refine jT_xlconst (z := 0) (pcN := 15) jI_263_14 rfl rfl ?_
  refine jT_adv 1 (pcN := 18) (LN := [(0, (4, 0)), (1, (0, x1)), (2, (0, 5)), (3, (0, 0))]) (stN := [(1, 9), (1, 0), (1, 5), (4, 0)]) (hsN := jpA_1695) (c1 := 0) (s1 := 0) (c2 := 6) (s2 := 186) (by exact rfl) ?_ (by omega) (by omega)
  refine jT_fR [] 22 (y := 189) (pcN := 21) (dC := 0) (bc1 := 0) (bc2 := 0) (c1 := 6) (c2 := 186) (as := [(1, 5), (1, 0), (1, 9)]) (asC := [(1, 5), (1, 0), (1, 9)]) (LN := [(0, (4, 0)), (1, (0, x1)), (2, (0, 5)), (3, (0, 0))]) (stN := [(4, 0)]) (hsC := []) (v := (0, 1)) (st2 := [(0, 1), (4, 0)]) (jA_189_1414 (d := 0)) (by rfl) (by rfl) (by decide +kernel) (by rfl) (by rfl) (by omega) (by omega) (by omega) (by omega) rfl ?_
  refine jT_xifF (t := 40) (pcN := 24) jI_263_21 rfl (by decide +kernel) rfl rfl ?_
  refine jT_xiload_n (v := (0, 0)) (pcN := 25) jI_263_24 rfl rfl rfl ?_
  refine jT_xi2l (x := 0) (z := 0) (pcN := 26) jI_263_25 rfl (by decide +kernel) rfl ?_
  refine jT_xlconst (z := 0) (pcN := 27) jI_263_26 rfl rfl ?_
  refine jT_adv 1 (pcN := 30) (LN := [(0, (4, 0)), (1, (0, x1)), (2, (0, 5)), (3, (0, 0))]) (stN := [(1, 2), (1, 0), (1, 0), (4, 0)]) (hsN := jpA_1695) (c1 := 0) (s1 := 0) (c2 := 6) (s2 := 186) (by exact rfl) ?_ (by omega) (by omega)
  refine jT_fR [] 22 (y := 189) (pcN := 33) (dC := 0) (bc1 := 0) (bc2 := 0) (c1 := 6) (c2 := 186) (as := [(1, 0), (1, 0), (1, 2)]) (asC := [(1, 0), (1, 0), (1, 2)]) (LN := [(0, (4, 0)), (1, (0, x1)), (2, (0, 5)), (3, (0, 0))]) (stN := [(4, 0)]) (hsC := []) (v := (0, 1)) (st2 := [(0, 1), (4, 0)]) (jA_189_1286 (d := 0)) (by rfl) (by rfl) (by decide +kernel) (by rfl) (by rfl) (by omega) (by omega) (by omega) (by omega) rfl ?_
  refine jT_xifF (t := 40) (pcN := 36) jI_263_33 rfl (by decide +kernel) rfl rfl ?_
  refine jT_xiconst (k := 1) (pcN := 37) jI_263_36 rfl ?_
  refine jT_xgoto (pcN := 41) jI_263_37 rfl ?_
  refine jT_xiconst (k := 2) (pcN := 42) jI_263_41 rfl ?_
  refine jT_fR [0] 22 (y := 191) (pcN := 45) (dC := 0) (bc1 := 0) (bc2 := 0) (c1 := 6) (c2 := 186) (as := [(4, 0), (0, 1), (0, 2)]) (asC := [(4, 0), (0, 1), (0, 2)]) (LN := [(0, (4, 0)), (1, (0, x1)), (2, (0, 5)), (3, (0, 0))]) (stN := []) (hsC := [jgh]) (v := (0, 0)) (st2 := [(0, 0)]) (jA_191_49 (d := 0)) (by rfl) (by rfl) (by decide +kernel) (by rfl) (by rfl) (by omega) (by omega) (by omega) (by omega) rfl ?_
  refine jT_xifT (pcN := 50) jI_263_45 rfl (by decide +kernel) rfl ?_
  refine jT_xaload_n (v := (4, 0)) (pcN := 51) jI_263_50 rfl rfl rfl ?_
  refine jT_xiload_n (v := (0, x1)) (pcN := 52) jI_263_51 rfl rfl rfl ?_
  refine jT_fR [0, 1, 2, 3, 4, 5, 6, 7, 8, 9, 10, 11, 12, 13, 14, 15] 22 (y := 202) (pcN := 55) (dC := 1) (bc1 := 0) (bc2 := 0) (c1 := 6) (c2 := 186) (as := [(4, 0), (0, x1)]) (asC := [(4, 0), (0, x1)]) (LN := [(0, (4, 0)), (1, (0, x1)), (2, (0, 5)), (3, (0, 0))]) (stN := []) (hsC := jpA_130) (v := (9, 0)) (st2 := []) (jA_202_115 (d := 0) (by omega)) (by rfl) (by rfl) (by decide +kernel) (by rfl) (by rfl) (by omega) (by omega) (by omega) (by omega) rfl ?_
  refine jT_xaload_n (v := (4, 0)) (pcN := 56) jI_263_55 rfl rfl rfl ?_
  refine jT_xiload_n (v := (0, 5)) (pcN := 57) jI_263_56 rfl rfl rfl ?_
  refine jT_fR [] 22 (y := 264) (pcN := 60) (dC := 0) (bc1 := 0) (bc2 := 0) (c1 := 6) (c2 := 186) (as := [(0, 5)]) (asC := [(0, 5)]) (LN := [(0, (4, 0)), (1, (0, x1)), (2, (0, 5)), (3, (0, 0))]) (stN := [(4, 0)]) (hsC := []) (v := (1, 100000)) (st2 := [(1, 100000), (4, 0)]) (jA_264_1415 (d := 0)) (by rfl) (by rfl) (by decide +kernel) (by rfl) (by rfl) (by omega) (by omega) (by omega) (by omega) rfl ?_
  refine jT_xiload_n (v := (0, 0)) (pcN := 61) jI_263_60 rfl rfl rfl ?_
  refine jT_fA [0, 1, 2, 3, 4, 5, 6, 7, 8, 9, 10, 11, 12, 13, 14, 15, 16, 17, 18, 19, 20, 21] 22 (y := 265) (pcN := 64) (dC := 6) (bc1 := 6) (bc2 := 186) (c1 := 0) (c2 := 0) (as := [(4, 0), (1, 100000), (0, 0)]) (asC := [(4, 0), (1, 100000), (0, 0)]) (LN := [(0, (4, 0)), (1, (0, x1)), (2, (0, 5)), (3, (0, 0))]) (stN := []) (hsC := jpA_684) (ex := jpA_4341) (v := (1, 0)) (st2 := [(1, 0)]) (hs2 := jpA_4349) (jA_265_1417 (d := 0)) (by rfl) (by rfl) (by decide +kernel) (by rfl) (by rfl) (by omega) (by omega) (by omega) (by omega) rfl (by decide +kernel) ?_
  exact jT_ret rfl (by decide) (by show 22 ≤ 28; decide) (by omega) (by omega) ⟨rfl, rfl, rfl⟩
theorem jA_108_1419 {xs : List Int} {d : Nat} : jT xs (d + 3) 108 16 0 [(0, (4, 0)), (1, (4, 1)), (2, (0, 5)), (3, (0, 1))] [] jpA_4325 2 8 (fun k v hsN => k = 0 ∧ v = (1, 0) ∧ hsN = jpA_4325 ++ [(101, [], [0, 0, 0, 0, 0, 0]), (4, [(4, 16), (1, 1)], [])]) := by
  refine jT_advK 63 (pcN := 69) (LN := [(6, (0, 5)), (4, (1, 120000000)), (0, (4, 0)), (1, (4, 1)), (2, (0, 5)), (3, (0, 1))]) (stN := [(1, 0), (1, 1), (1, (-1)), (4, 1), (4, 2)]) (hsN := jpA_4325) (c1 := 0) (s1 := 0) (c2 := 2) (s2 := 8) (by decide +kernel) ?_ (by omega) (by omega)
  refine jT_fA [1, 13] 16 (y := 10) (pcN := 72) (dC := 2) (bc1 := 2) (bc2 := 8) (c1 := 0) (c2 := 0) (as := [(4, 1), (1, (-1)), (1, 1), (1, 0)]) (asC := [(4, 0), (1, (-1)), (1, 1), (1, 0)]) (LN := [(6, (0, 5)), (4, (1, 120000000)), (0, (4, 0)), (1, (4, 1)), (2, (0, 5)), (3, (0, 1))]) (stN := [(4, 2)]) (hsC := [(4, [(4, 1), (1, 1)], []), (101, [], [0, 0, 0, 0, 0, 0])]) (ex := [(101, [], [0, 0, 0, 0, 0, 0]), (4, [(4, 2), (1, 1)], [])]) (v := (4, 3)) (st2 := [(4, 17), (4, 2)]) (hs2 := jpA_4350) (jA_10_1294 (d := 0)) (by rfl) (by rfl) (by decide +kernel) (by rfl) (by rfl) (by omega) (by omega) (by omega) (by omega) rfl (by decide +kernel) ?_
  refine jT_advK 1 (pcN := 74) (LN := [(6, (0, 5)), (4, (1, 120000000)), (0, (4, 0)), (1, (4, 1)), (2, (0, 5)), (3, (0, 1))]) (stN := [(1, 120000000), (4, 17), (4, 2)]) (hsN := jpA_4350) (c1 := 0) (s1 := 0) (c2 := 0) (s2 := 0) (by decide +kernel) ?_ (by omega) (by omega)
  refine jT_fR [2, 17, 14, 15, 16] 18 (y := 44) (pcN := 77) (dC := 2) (bc1 := 0) (bc2 := 0) (c1 := 0) (c2 := 0) (as := [(4, 2), (4, 17), (1, 120000000)]) (asC := [(4, 0), (4, 1), (1, 120000000)]) (LN := [(6, (0, 5)), (4, (1, 120000000)), (0, (4, 0)), (1, (4, 1)), (2, (0, 5)), (3, (0, 1))]) (stN := []) (hsC := jpA_626) (v := (1, 0)) (st2 := [(1, 0)]) (jA_44_1410 (d := 0)) (by rfl) (by rfl) (by decide +kernel) (by rfl) (by rfl) (by omega) (by omega) (by omega) (by omega) rfl ?_
  refine jT_advK 1 (pcN := 78) (LN := [(6, (0, 5)), (4, (1, 120000000)), (0, (4, 0)), (1, (4, 1)), (2, (0, 5)), (3, (0, 1))]) (stN := [(1, 0)]) (hsN := jpA_4350) (c1 := 0) (s1 := 0) (c2 := 0) (s2 := 0) (by decide +kernel) ?_ (by omega) (by omega)
  exact jT_ret rfl (by decide) (by show 16 ≤ 18; decide) (by omega) (by omega) ⟨rfl, rfl, rfl⟩
theorem jA_140_1420 {xs : List Int} {d : Nat} {x1 : Int} (h_x1 : 0 ≤ x1 ∧ x1 ≤ 7) : jT xs (d + 4) 140 21 0 [(0, (4, 0)), (1, (0, x1)), (2, (0, 5)), (3, (0, 1))] [] jpA_3958 2 8 (fun k v hsN => k = 0 ∧ v = (1, 0) ∧ hsN = jpA_3958 ++ [(101, [], [0, 0, 0, 0, 0, 0]), (4, [(4, 21), (1, 1)], [])]) := by
  refine jT_xaload_n (v := (4, 0)) (pcN := 1) jI_140_0 rfl rfl rfl ?_
  refine jT_xiload_n (v := (0, x1)) (pcN := 2) jI_140_1 rfl rfl rfl ?_
  refine jT_xbipush (k := 8) (pcN := 4) jI_140_2 (by decide) rfl ?_
  refine jT_fR [0] 21 (y := 115) (pcN := 7) (dC := 0) (bc1 := 0) (bc2 := 0) (c1 := 2) (c2 := 8) (as := [(4, 0), (0, x1), (0, 8)]) (asC := [(4, 0), (0, x1), (0, 8)]) (LN := [(0, (4, 0)), (1, (0, x1)), (2, (0, 5)), (3, (0, 1))]) (stN := []) (hsC := [jgh]) (v := (9, 0)) (st2 := []) (jA_115_9 (d := 0) (by omega)) (by rfl) (by rfl) (by decide +kernel) (by rfl) (by rfl) (by omega) (by omega) (by omega) (by omega) rfl ?_
  refine jT_xaload_n (v := (4, 0)) (pcN := 8) jI_140_7 rfl rfl rfl ?_
  refine jT_xiload_n (v := (0, 5)) (pcN := 9) jI_140_8 rfl rfl rfl ?_
  refine jT_xiconst (k := 0) (pcN := 10) jI_140_9 rfl ?_
  refine jT_xbipush (k := 9) (pcN := 12) jI_140_10 (by decide) rfl ?_
  refine jT_fR [0] 21 (y := 116) (pcN := 15) (dC := 0) (bc1 := 0) (bc2 := 0) (c1 := 2) (c2 := 8) (as := [(4, 0), (0, 5), (0, 0), (0, 9)]) (asC := [(4, 0), (0, 5), (0, 0), (0, 9)]) (LN := [(0, (4, 0)), (1, (0, x1)), (2, (0, 5)), (3, (0, 1))]) (stN := []) (hsC := [jgh]) (v := (9, 0)) (st2 := []) (jA_116_1408 (d := 0)) (by rfl) (by rfl) (by decide +kernel) (by rfl) (by rfl) (by omega) (by omega) (by omega) (by omega) rfl ?_
  refine jT_xaload_n (v := (4, 0)) (pcN := 16) jI_140_15 rfl rfl rfl ?_
  refine jT_xiload_n (v := (0, 1)) (pcN := 17) jI_140_16 rfl rfl rfl ?_
  refine jT_xiconst (k := 0) (pcN := 18) jI_140_17 rfl ?_
  refine jT_xiconst (k := 2) (pcN := 19) jI_140_18 rfl ?_
  refine jT_fR [0] 21 (y := 116) (pcN := 22) (dC := 0) (bc1 := 0) (bc2 := 0) (c1 := 2) (c2 := 8) (as := [(4, 0), (0, 1), (0, 0), (0, 2)]) (asC := [(4, 0), (0, 1), (0, 0), (0, 2)]) (LN := [(0, (4, 0)), (1, (0, x1)), (2, (0, 5)), (3, (0, 1))]) (stN := []) (hsC := [jgh]) (v := (9, 0)) (st2 := []) (jA_116_1293 (d := 0)) (by rfl) (by rfl) (by decide +kernel) (by rfl) (by rfl) (by omega) (by omega) (by omega) (by omega) rfl ?_
  refine jT_xaload_n (v := (4, 0)) (pcN := 23) jI_140_22 rfl rfl rfl ?_
  refine jT_xaload_n (v := (4, 0)) (pcN := 24) jI_140_23 rfl rfl rfl ?_
  refine jT_xgetf (a := 0) (t := 1) (ci := 13) (fi := 11) (c := jzA_5) (v := (4, 11)) (pcN := 27) jI_140_24 rfl rfl rfl rfl rfl rfl rfl ?_
  refine jT_xiload_n (v := (0, x1)) (pcN := 28) jI_140_27 rfl rfl rfl ?_
  refine jT_fR [11, 14, 15, 16, 17, 18, 19] 21 (y := 57) (pcN := 31) (dC := 0) (bc1 := 0) (bc2 := 0) (c1 := 2) (c2 := 8) (as := [(4, 11), (0, x1)]) (asC := [(4, 0), (0, x1)]) (LN := [(0, (4, 0)), (1, (0, x1)), (2, (0, 5)), (3, (0, 1))]) (stN := [(4, 0)]) (hsC := jpA_47) (v := (4, 6)) (st2 := [(4, 19), (4, 0)]) (jA_57_108 (d := 0) (by omega)) (by rfl) (by rfl) (by decide +kernel) (by rfl) (by rfl) (by omega) (by omega) (by omega) (by omega) rfl ?_
  refine jT_xiload_n (v := (0, 5)) (pcN := 32) jI_140_31 rfl rfl rfl ?_
  refine jT_xiload_n (v := (0, 1)) (pcN := 33) jI_140_32 rfl rfl rfl ?_
  refine jT_fA [0, 19, 1, 2, 3, 4, 5, 6, 7, 8, 9, 10, 11, 20, 12, 13] 21 (y := 108) (pcN := 36) (dC := 3) (bc1 := 2) (bc2 := 8) (c1 := 0) (c2 := 0) (as := [(4, 0), (4, 19), (0, 5), (0, 1)]) (asC := [(4, 0), (4, 1), (0, 5), (0, 1)]) (LN := [(0, (4, 0)), (1, (0, x1)), (2, (0, 5)), (3, (0, 1))]) (stN := []) (hsC := jpA_4325) (ex := [(101, [], [0, 0, 0, 0, 0, 0]), (4, [(4, 16), (1, 1)], [])]) (v := (1, 0)) (st2 := [(1, 0)]) (hs2 := jpA_4351) (jA_108_1419 (d := 0)) (by rfl) (by rfl) (by decide +kernel) (by rfl) (by rfl) (by omega) (by omega) (by omega) (by omega) rfl (by decide +kernel) ?_
  exact jT_ret rfl (by decide) (by show 21 ≤ 23; decide) (by omega) (by omega) ⟨rfl, rfl, rfl⟩
theorem jA_347_1421 {xs : List Int} {d : Nat} {x1 : Int} (h_x1 : 0 ≤ x1 ∧ x1 ≤ 7) : jT xs (d + 5) 347 22 0 [(0, (4, 0)), (1, (0, x1)), (2, (0, 5)), (3, (0, 1)), (4, (4, 1))] [] jpA_4038 2 8 (fun k v hsN => k = 0 ∧ v = (0, 0) ∧ hsN = jpA_4038 ++ [(101, [], [0, 0, 0, 0, 0, 0]), (4, [(4, 22), (1, 1)], [])]) := by
  refine jT_xaload (v := (4, 1)) (pcN := 2) jI_347_0 rfl rfl rfl ?_
  refine jT_xiconst (k := 0) (pcN := 3) jI_347_2 rfl ?_
  refine jT_xaload_n (v := (4, 0)) (pcN := 4) jI_347_3 rfl rfl rfl ?_
  refine jT_xiload_n (v := (0, x1)) (pcN := 5) jI_347_4 rfl rfl rfl ?_
  refine jT_xiload_n (v := (0, 5)) (pcN := 6) jI_347_5 rfl rfl rfl ?_
  refine jT_xiload_n (v := (0, 1)) (pcN := 7) jI_347_6 rfl rfl rfl ?_
  refine jT_fA [0, 2, 3, 4, 5, 6, 7, 8, 9, 10, 11, 12, 13, 14, 15, 16, 17, 18, 19, 20, 21] 22 (y := 140) (pcN := 10) (dC := 4) (bc1 := 2) (bc2 := 8) (c1 := 0) (c2 := 0) (as := [(4, 0), (0, x1), (0, 5), (0, 1)]) (asC := [(4, 0), (0, x1), (0, 5), (0, 1)]) (LN := [(0, (4, 0)), (1, (0, x1)), (2, (0, 5)), (3, (0, 1)), (4, (4, 1))]) (stN := [(0, 0), (4, 1)]) (hsC := jpA_3958) (ex := [(101, [], [0, 0, 0, 0, 0, 0]), (4, [(4, 21), (1, 1)], [])]) (v := (1, 0)) (st2 := [(1, 0), (0, 0), (4, 1)]) (hs2 := jpA_4352) (jA_140_1420 (d := 0) (by omega)) (by rfl) (by rfl) (by decide +kernel) (by rfl) (by rfl) (by omega) (by omega) (by omega) (by omega) rfl (by decide +kernel) ?_
  refine jT_adv 1 (pcN := 11) (LN := [(0, (4, 0)), (1, (0, x1)), (2, (0, 5)), (3, (0, 1)), (4, (4, 1))]) (stN := []) (hsN := jpA_4352) (c1 := 0) (s1 := 0) (c2 := 0) (s2 := 0) (by exact rfl) ?_ (by omega) (by omega)
  refine jT_xgoto (pcN := 22) jI_347_11 rfl ?_
  refine jT_xiconst (k := 0) (pcN := 23) jI_347_22 rfl ?_
  exact jT_ret rfl (by decide) (by show 22 ≤ 24; decide) (by omega) (by omega) ⟨rfl, rfl, rfl⟩
theorem jA_265_1422 {xs : List Int} {d : Nat} : jT xs (d + 6) 265 22 0 [(0, (4, 0)), (1, (1, 100000)), (3, (0, 1))] [] jpA_684 7 192 (fun k v hsN => k = 0 ∧ v = (1, 0) ∧ hsN = jpA_684 ++ jpA_4354) := by
  refine jT_advK 4 (pcN := 6) (LN := [(0, (4, 0)), (1, (1, 100000)), (3, (0, 1))]) (stN := [(1, 120000000), (4, 0)]) (hsN := jpA_684) (c1 := 0) (s1 := 0) (c2 := 7) (s2 := 192) (by decide +kernel) ?_ (by omega) (by omega)
  refine jT_fA [0, 1, 2, 3, 4, 5, 6, 7, 8, 9, 10, 11, 12, 13, 14, 15] 22 (y := 218) (pcN := 9) (dC := 0) (bc1 := 1) (bc2 := 6) (c1 := 6) (c2 := 186) (as := [(4, 0), (1, 120000000)]) (asC := [(4, 0), (1, 120000000)]) (LN := [(0, (4, 0)), (1, (1, 100000)), (3, (0, 1))]) (stN := []) (hsC := jpA_147) (ex := [(101, [], [0, 0, 0, 0, 0, 0])]) (v := (4, 16)) (st2 := [(4, 22)]) (hs2 := jpA_3652) (jA_218_1416 (d := 0)) (by rfl) (by rfl) (by decide +kernel) (by rfl) (by rfl) (by omega) (by omega) (by omega) (by omega) rfl (by decide +kernel) ?_
  refine jT_advK 8 (pcN := 34) (LN := [(4, (4, 22)), (0, (4, 0)), (1, (1, 100000)), (3, (0, 1))]) (stN := [(1, 1), (4, 22), (4, 0)]) (hsN := jpA_3652) (c1 := 0) (s1 := 0) (c2 := 6) (s2 := 186) (by decide +kernel) ?_ (by omega) (by omega)
  refine jT_fA [0, 22, 1, 2, 3, 4, 5, 6, 7, 8, 9, 10, 11, 12, 13, 14, 15, 16, 17, 18, 19, 20, 21] 23 (y := 210) (pcN := 37) (dC := 5) (bc1 := 5) (bc2 := 180) (c1 := 1) (c2 := 6) (as := [(4, 0), (4, 22), (1, 1)]) (asC := [(4, 0), (4, 1), (1, 1)]) (LN := [(4, (4, 22)), (0, (4, 0)), (1, (1, 100000)), (3, (0, 1))]) (stN := []) (hsC := jpA_987) (ex := jpA_683) (v := (1, 0)) (st2 := [(1, 0)]) (hs2 := jpA_4340) (jA_210_1290 (d := 0)) (by rfl) (by rfl) (by decide +kernel) (by rfl) (by rfl) (by omega) (by omega) (by omega) (by omega) rfl (by decide +kernel) ?_
  refine jT_advK 9 (pcN := 53) (LN := [(5, (1, 0)), (4, (4, 22)), (0, (4, 0)), (1, (1, 100000)), (3, (0, 1))]) (stN := [(1, 0), (4, 22), (4, 0)]) (hsN := jpA_4340) (c1 := 0) (s1 := 0) (c2 := 1) (s2 := 6) (by decide +kernel) ?_ (by omega) (by omega)
  refine jT_fA [0, 22, 1, 2, 3, 4, 5, 6, 7, 8, 9, 10, 11, 12, 13, 14, 15] 28 (y := 212) (pcN := 56) (dC := 2) (bc1 := 1) (bc2 := 6) (c1 := 0) (c2 := 0) (as := [(4, 0), (4, 22), (1, 0)]) (asC := [(4, 0), (4, 1), (1, 0)]) (LN := [(5, (1, 0)), (4, (4, 22)), (0, (4, 0)), (1, (1, 100000)), (3, (0, 1))]) (stN := []) (hsC := jpA_4335) (ex := [(101, [], [0, 0, 0, 0, 0, 0])]) (v := (0, 0)) (st2 := [(0, 0)]) (hs2 := jpA_4353) (jA_212_1288 (d := 0)) (by rfl) (by rfl) (by decide +kernel) (by rfl) (by rfl) (by omega) (by omega) (by omega) (by omega) rfl (by decide +kernel) ?_
  refine jT_advK 3 (pcN := 68) (LN := [(5, (1, 0)), (4, (4, 22)), (0, (4, 0)), (1, (1, 100000)), (3, (0, 1))]) (stN := [(1, 0)]) (hsN := jpA_4353) (c1 := 0) (s1 := 0) (c2 := 0) (s2 := 0) (by decide +kernel) ?_ (by omega) (by omega)
  exact jT_ret rfl (by decide) (by show 22 ≤ 29; decide) (by omega) (by omega) ⟨rfl, rfl, rfl⟩
theorem jA_263_1423 {xs : List Int} {d : Nat} {x1 : Int} (h_x1 : 0 ≤ x1 ∧ x1 ≤ 7) : jT xs (d + 7) 263 22 0 [(0, (4, 0)), (1, (0, x1)), (2, (0, 5)), (3, (0, 1))] [] jpA_1695 7 192 (fun k v hsN => k = 0 ∧ v = (1, 0) ∧ hsN = jpA_1695 ++ jpA_4354) := by
  refine jT_xaload_n (v := (4, 0)) (pcN := 1) jI_263_0 rfl rfl rfl ?_
  refine jT_xiload_n (v := (0, x1)) (pcN := 2) jI_263_1 rfl rfl rfl ?_
  refine jT_fR [] 22 (y := 188) (pcN := 5) (dC := 1) (bc1 := 0) (bc2 := 0) (c1 := 7) (c2 := 192) (as := [(0, x1)]) (asC := [(0, x1)]) (LN := [(0, (4, 0)), (1, (0, x1)), (2, (0, 5)), (3, (0, 1))]) (stN := [(4, 0)]) (hsC := []) (v := (0, 1)) (st2 := [(0, 1), (4, 0)]) (jA_188_13 (d := 0) (by omega)) (by rfl) (by rfl) (by decide +kernel) (by rfl) (by rfl) (by omega) (by omega) (by omega) (by omega) rfl ?_
  refine jT_fR [0, 1, 2, 3, 4, 5, 6, 7, 8, 9, 10, 11, 12, 13, 14, 15] 22 (y := 190) (pcN := 8) (dC := 1) (bc1 := 0) (bc2 := 0) (c1 := 7) (c2 := 192) (as := [(4, 0), (0, 1)]) (asC := [(4, 0), (0, 1)]) (LN := [(0, (4, 0)), (1, (0, x1)), (2, (0, 5)), (3, (0, 1))]) (stN := []) (hsC := jpA_22) (v := (0, 0)) (st2 := [(0, 0)]) (jA_190_39 (d := 0)) (by rfl) (by rfl) (by decide +kernel) (by rfl) (by rfl) (by omega) (by omega) (by omega) (by omega) rfl ?_
  refine jT_xifF (t := 48) (pcN := 11) jI_263_8 rfl (by decide +kernel) rfl rfl ?_
  refine jT_xaload_n (v := (4, 0)) (pcN := 12) jI_263_11 rfl rfl rfl ?_
  refine jT_xiload_n (v := (0, 5)) (pcN := 13) jI_263_12 rfl rfl rfl ?_
  refine jT_xi2l (x := 5) (z := 5) (pcN := 14) jI_263_13 rfl (by decide +kernel) rfl ?_
  refine jT_xlconst (z := 0) (pcN := 15) jI_263_14 rfl rfl ?_
  refine jT_adv 1 (pcN := 18) (LN := [(0, (4, 0)), (1, (0, x1)), (2, (0, 5)), (3, (0, 1))]) (stN := [(1, 9), (1, 0), (1, 5), (4, 0)]) (hsN := jpA_1695) (c1 := 0) (s1 := 0) (c2 := 7) (s2 := 192) (by exact rfl) ?_ (by omega) (by omega)
  refine jT_fR [] 22 (y := 189) (pcN := 21) (dC := 0) (bc1 := 0) (bc2 := 0) (c1 := 7) (c2 := 192) (as := [(1, 5), (1, 0), (1, 9)]) (asC := [(1, 5), (1, 0), (1, 9)]) (LN := [(0, (4, 0)), (1, (0, x1)), (2, (0, 5)), (3, (0, 1))]) (stN := [(4, 0)]) (hsC := []) (v := (0, 1)) (st2 := [(0, 1), (4, 0)]) (jA_189_1414 (d := 0)) (by rfl) (by rfl) (by decide +kernel) (by rfl) (by rfl) (by omega) (by omega) (by omega) (by omega) rfl ?_
  refine jT_xifF (t := 40) (pcN := 24) jI_263_21 rfl (by decide +kernel) rfl rfl ?_
  refine jT_xiload_n (v := (0, 1)) (pcN := 25) jI_263_24 rfl rfl rfl ?_
  refine jT_xi2l (x := 1) (z := 1) (pcN := 26) jI_263_25 rfl (by decide +kernel) rfl ?_
  refine jT_xlconst (z := 0) (pcN := 27) jI_263_26 rfl rfl ?_
  refine jT_adv 1 (pcN := 30) (LN := [(0, (4, 0)), (1, (0, x1)), (2, (0, 5)), (3, (0, 1))]) (stN := [(1, 2), (1, 0), (1, 1), (4, 0)]) (hsN := jpA_1695) (c1 := 0) (s1 := 0) (c2 := 7) (s2 := 192) (by exact rfl) ?_ (by omega) (by omega)
  refine jT_fR [] 22 (y := 189) (pcN := 33) (dC := 0) (bc1 := 0) (bc2 := 0) (c1 := 7) (c2 := 192) (as := [(1, 1), (1, 0), (1, 2)]) (asC := [(1, 1), (1, 0), (1, 2)]) (LN := [(0, (4, 0)), (1, (0, x1)), (2, (0, 5)), (3, (0, 1))]) (stN := [(4, 0)]) (hsC := []) (v := (0, 1)) (st2 := [(0, 1), (4, 0)]) (jA_189_1298 (d := 0)) (by rfl) (by rfl) (by decide +kernel) (by rfl) (by rfl) (by omega) (by omega) (by omega) (by omega) rfl ?_
  refine jT_xifF (t := 40) (pcN := 36) jI_263_33 rfl (by decide +kernel) rfl rfl ?_
  refine jT_xiconst (k := 1) (pcN := 37) jI_263_36 rfl ?_
  refine jT_xgoto (pcN := 41) jI_263_37 rfl ?_
  refine jT_xiconst (k := 2) (pcN := 42) jI_263_41 rfl ?_
  refine jT_fR [0] 22 (y := 191) (pcN := 45) (dC := 0) (bc1 := 0) (bc2 := 0) (c1 := 7) (c2 := 192) (as := [(4, 0), (0, 1), (0, 2)]) (asC := [(4, 0), (0, 1), (0, 2)]) (LN := [(0, (4, 0)), (1, (0, x1)), (2, (0, 5)), (3, (0, 1))]) (stN := []) (hsC := [jgh]) (v := (0, 0)) (st2 := [(0, 0)]) (jA_191_49 (d := 0)) (by rfl) (by rfl) (by decide +kernel) (by rfl) (by rfl) (by omega) (by omega) (by omega) (by omega) rfl ?_
  refine jT_xifT (pcN := 50) jI_263_45 rfl (by decide +kernel) rfl ?_
  refine jT_xaload_n (v := (4, 0)) (pcN := 51) jI_263_50 rfl rfl rfl ?_
  refine jT_xiload_n (v := (0, x1)) (pcN := 52) jI_263_51 rfl rfl rfl ?_
  refine jT_fR [0, 1, 2, 3, 4, 5, 6, 7, 8, 9, 10, 11, 12, 13, 14, 15] 22 (y := 202) (pcN := 55) (dC := 1) (bc1 := 0) (bc2 := 0) (c1 := 7) (c2 := 192) (as := [(4, 0), (0, x1)]) (asC := [(4, 0), (0, x1)]) (LN := [(0, (4, 0)), (1, (0, x1)), (2, (0, 5)), (3, (0, 1))]) (stN := []) (hsC := jpA_130) (v := (9, 0)) (st2 := []) (jA_202_115 (d := 0) (by omega)) (by rfl) (by rfl) (by decide +kernel) (by rfl) (by rfl) (by omega) (by omega) (by omega) (by omega) rfl ?_
  refine jT_xaload_n (v := (4, 0)) (pcN := 56) jI_263_55 rfl rfl rfl ?_
  refine jT_xiload_n (v := (0, 5)) (pcN := 57) jI_263_56 rfl rfl rfl ?_
  refine jT_fR [] 22 (y := 264) (pcN := 60) (dC := 0) (bc1 := 0) (bc2 := 0) (c1 := 7) (c2 := 192) (as := [(0, 5)]) (asC := [(0, 5)]) (LN := [(0, (4, 0)), (1, (0, x1)), (2, (0, 5)), (3, (0, 1))]) (stN := [(4, 0)]) (hsC := []) (v := (1, 100000)) (st2 := [(1, 100000), (4, 0)]) (jA_264_1415 (d := 0)) (by rfl) (by rfl) (by decide +kernel) (by rfl) (by rfl) (by omega) (by omega) (by omega) (by omega) rfl ?_
  refine jT_xiload_n (v := (0, 1)) (pcN := 61) jI_263_60 rfl rfl rfl ?_
  refine jT_fA [0, 1, 2, 3, 4, 5, 6, 7, 8, 9, 10, 11, 12, 13, 14, 15, 16, 17, 18, 19, 20, 21] 22 (y := 265) (pcN := 64) (dC := 6) (bc1 := 7) (bc2 := 192) (c1 := 0) (c2 := 0) (as := [(4, 0), (1, 100000), (0, 1)]) (asC := [(4, 0), (1, 100000), (0, 1)]) (LN := [(0, (4, 0)), (1, (0, x1)), (2, (0, 5)), (3, (0, 1))]) (stN := []) (hsC := jpA_684) (ex := jpA_4354) (v := (1, 0)) (st2 := [(1, 0)]) (hs2 := jpA_4355) (jA_265_1422 (d := 0)) (by rfl) (by rfl) (by decide +kernel) (by rfl) (by rfl) (by omega) (by omega) (by omega) (by omega) rfl (by decide +kernel) ?_
  exact jT_ret rfl (by decide) (by show 22 ≤ 29; decide) (by omega) (by omega) ⟨rfl, rfl, rfl⟩
theorem jA_45_1424 {xs : List Int} {d : Nat} : jT xs (d + 1) 45 4 0 [(0, (4, 0)), (1, (4, 1)), (2, (1, 1)), (4, (1, 240000000))] [] jpA_625 0 0 (fun k v hsN => k = 0 ∧ v = (1, 0) ∧ hsN = jpA_625 ++ []) := by
  refine jT_advK 10 (pcN := 17) (LN := [(0, (4, 0)), (1, (4, 1)), (2, (1, 1)), (4, (1, 240000000))]) (stN := [(4, 1), (4, 0)]) (hsN := jpA_625) (c1 := 0) (s1 := 0) (c2 := 0) (s2 := 0) (by decide +kernel) ?_ (by omega) (by omega)
  refine jT_fR [0, 1] 4 (y := 39) (pcN := 20) (dC := 0) (bc1 := 0) (bc2 := 0) (c1 := 0) (c2 := 0) (as := [(4, 0), (4, 1)]) (asC := [(4, 0), (4, 1)]) (LN := [(0, (4, 0)), (1, (4, 1)), (2, (1, 1)), (4, (1, 240000000))]) (stN := []) (hsC := [jgh, (101, [], [0, 0, 0, 0, 0, 0])]) (v := (1, 0)) (st2 := [(1, 0)]) (jA_39_144 (d := 0)) (by rfl) (by rfl) (by decide +kernel) (by rfl) (by rfl) (by omega) (by omega) (by omega) (by omega) rfl ?_
  refine jT_advK 11 (pcN := 36) (LN := [(6, (1, 0)), (0, (4, 0)), (1, (4, 1)), (2, (1, 1)), (4, (1, 240000000))]) (stN := [(1, 1), (1, 0)]) (hsN := jpA_625) (c1 := 0) (s1 := 0) (c2 := 0) (s2 := 0) (by decide +kernel) ?_ (by omega) (by omega)
  refine jT_fR [] 4 (y := 373) (pcN := 39) (dC := 0) (bc1 := 0) (bc2 := 0) (c1 := 0) (c2 := 0) (as := [(1, 0), (1, 1)]) (asC := [(1, 0), (1, 1)]) (LN := [(6, (1, 0)), (0, (4, 0)), (1, (4, 1)), (2, (1, 1)), (4, (1, 240000000))]) (stN := []) (hsC := []) (v := (1, 0)) (st2 := [(1, 0)]) (jA_373_145 (d := 0)) (by rfl) (by rfl) (by decide +kernel) (by rfl) (by rfl) (by omega) (by omega) (by omega) (by omega) rfl ?_
  exact jT_ret rfl (by decide) (by show 4 ≤ 4; decide) (by omega) (by omega) ⟨rfl, rfl, rfl⟩
theorem jA_44_1425 {xs : List Int} {d : Nat} : jT xs (d + 2) 44 5 0 [(0, (4, 0)), (1, (4, 1)), (2, (1, 240000000))] [] jpA_626 0 0 (fun k v hsN => k = 0 ∧ v = (1, 0) ∧ hsN = jpA_626 ++ []) := by
  refine jT_advK 6 (pcN := 10) (LN := [(0, (4, 0)), (1, (4, 1)), (2, (1, 240000000))]) (stN := [(1, 240000000), (1, 1), (4, 4), (4, 0)]) (hsN := jpA_626) (c1 := 0) (s1 := 0) (c2 := 0) (s2 := 0) (by decide +kernel) ?_ (by omega) (by omega)
  refine jT_fR [0, 4, 2, 3] 5 (y := 45) (pcN := 13) (dC := 1) (bc1 := 0) (bc2 := 0) (c1 := 0) (c2 := 0) (as := [(4, 0), (4, 4), (1, 1), (1, 240000000)]) (asC := [(4, 0), (4, 1), (1, 1), (1, 240000000)]) (LN := [(0, (4, 0)), (1, (4, 1)), (2, (1, 240000000))]) (stN := []) (hsC := jpA_625) (v := (1, 0)) (st2 := [(1, 0)]) (jA_45_1424 (d := 0)) (by rfl) (by rfl) (by decide +kernel) (by rfl) (by rfl) (by omega) (by omega) (by omega) (by omega) rfl ?_
  exact jT_ret rfl (by decide) (by show 5 ≤ 5; decide) (by omega) (by omega) ⟨rfl, rfl, rfl⟩
theorem jA_43_1426 {xs : List Int} {d : Nat} : jT xs (d + 3) 43 5 0 [(0, (4, 0)), (1, (4, 1)), (2, (1, 120000000))] [] jpA_626 0 0 (fun k v hsN => k = 0 ∧ v = (1, 0) ∧ hsN = jpA_626 ++ []) := by
  refine jT_advK 5 (pcN := 7) (LN := [(0, (4, 0)), (1, (4, 1)), (2, (1, 120000000))]) (stN := [(1, 240000000), (4, 1), (4, 0)]) (hsN := jpA_626) (c1 := 0) (s1 := 0) (c2 := 0) (s2 := 0) (by decide +kernel) ?_ (by omega) (by omega)
  refine jT_fR [0, 1, 2, 3, 4] 5 (y := 44) (pcN := 10) (dC := 2) (bc1 := 0) (bc2 := 0) (c1 := 0) (c2 := 0) (as := [(4, 0), (4, 1), (1, 240000000)]) (asC := [(4, 0), (4, 1), (1, 240000000)]) (LN := [(0, (4, 0)), (1, (4, 1)), (2, (1, 120000000))]) (stN := []) (hsC := jpA_626) (v := (1, 0)) (st2 := [(1, 0)]) (jA_44_1425 (d := 0)) (by rfl) (by rfl) (by decide +kernel) (by rfl) (by rfl) (by omega) (by omega) (by omega) (by omega) rfl ?_
  refine jT_advK 3 (pcN := 13) (LN := [(0, (4, 0)), (1, (4, 1)), (2, (1, 120000000))]) (stN := [(0, 2), (1, 1)]) (hsN := jpA_626) (c1 := 0) (s1 := 0) (c2 := 0) (s2 := 0) (by decide +kernel) ?_ (by omega) (by omega)
  refine jT_fR [] 5 (y := 374) (pcN := 16) (dC := 1) (bc1 := 0) (bc2 := 0) (c1 := 0) (c2 := 0) (as := [(1, 1), (0, 2)]) (asC := [(1, 1), (0, 2)]) (LN := [(0, (4, 0)), (1, (4, 1)), (2, (1, 120000000))]) (stN := []) (hsC := []) (v := (1, 0)) (st2 := [(1, 0)]) (jA_374_178 (d := 0)) (by rfl) (by rfl) (by decide +kernel) (by rfl) (by rfl) (by omega) (by omega) (by omega) (by omega) rfl ?_
  exact jT_ret rfl (by decide) (by show 5 ≤ 5; decide) (by omega) (by omega) ⟨rfl, rfl, rfl⟩
theorem jA_108_1427 {xs : List Int} {d : Nat} : jT xs (d + 4) 108 16 0 [(0, (4, 0)), (1, (4, 1)), (2, (0, 5)), (3, (0, 2))] [] jpA_4325 0 0 (fun k v hsN => k = 0 ∧ v = (1, 0) ∧ hsN = jpA_4325 ++ []) := by
  refine jT_advK 59 (pcN := 40) (LN := [(6, (0, 5)), (4, (1, 120000000)), (0, (4, 0)), (1, (4, 1)), (2, (0, 5)), (3, (0, 2))]) (stN := [(1, 120000000), (4, 1), (4, 2)]) (hsN := jpA_4325) (c1 := 0) (s1 := 0) (c2 := 0) (s2 := 0) (by decide +kernel) ?_ (by omega) (by omega)
  refine jT_fR [2, 1, 14, 15, 13] 16 (y := 43) (pcN := 43) (dC := 3) (bc1 := 0) (bc2 := 0) (c1 := 0) (c2 := 0) (as := [(4, 2), (4, 1), (1, 120000000)]) (asC := [(4, 0), (4, 1), (1, 120000000)]) (LN := [(6, (0, 5)), (4, (1, 120000000)), (0, (4, 0)), (1, (4, 1)), (2, (0, 5)), (3, (0, 2))]) (stN := []) (hsC := jpA_626) (v := (1, 0)) (st2 := [(1, 0)]) (jA_43_1426 (d := 0)) (by rfl) (by rfl) (by decide +kernel) (by rfl) (by rfl) (by omega) (by omega) (by omega) (by omega) rfl ?_
  exact jT_ret rfl (by decide) (by show 16 ≤ 16; decide) (by omega) (by omega) ⟨rfl, rfl, rfl⟩
theorem jA_140_1428 {xs : List Int} {d : Nat} {x1 : Int} (h_x1 : 0 ≤ x1 ∧ x1 ≤ 7) : jT xs (d + 5) 140 21 0 [(0, (4, 0)), (1, (0, x1)), (2, (0, 5)), (3, (0, 2))] [] jpA_3958 0 0 (fun k v hsN => k = 0 ∧ v = (1, 0) ∧ hsN = jpA_3958 ++ []) := by
  refine jT_xaload_n (v := (4, 0)) (pcN := 1) jI_140_0 rfl rfl rfl ?_
  refine jT_xiload_n (v := (0, x1)) (pcN := 2) jI_140_1 rfl rfl rfl ?_
  refine jT_xbipush (k := 8) (pcN := 4) jI_140_2 (by decide) rfl ?_
  refine jT_fR [0] 21 (y := 115) (pcN := 7) (dC := 0) (bc1 := 0) (bc2 := 0) (c1 := 0) (c2 := 0) (as := [(4, 0), (0, x1), (0, 8)]) (asC := [(4, 0), (0, x1), (0, 8)]) (LN := [(0, (4, 0)), (1, (0, x1)), (2, (0, 5)), (3, (0, 2))]) (stN := []) (hsC := [jgh]) (v := (9, 0)) (st2 := []) (jA_115_9 (d := 0) (by omega)) (by rfl) (by rfl) (by decide +kernel) (by rfl) (by rfl) (by omega) (by omega) (by omega) (by omega) rfl ?_
  refine jT_xaload_n (v := (4, 0)) (pcN := 8) jI_140_7 rfl rfl rfl ?_
  refine jT_xiload_n (v := (0, 5)) (pcN := 9) jI_140_8 rfl rfl rfl ?_
  refine jT_xiconst (k := 0) (pcN := 10) jI_140_9 rfl ?_
  refine jT_xbipush (k := 9) (pcN := 12) jI_140_10 (by decide) rfl ?_
  refine jT_fR [0] 21 (y := 116) (pcN := 15) (dC := 0) (bc1 := 0) (bc2 := 0) (c1 := 0) (c2 := 0) (as := [(4, 0), (0, 5), (0, 0), (0, 9)]) (asC := [(4, 0), (0, 5), (0, 0), (0, 9)]) (LN := [(0, (4, 0)), (1, (0, x1)), (2, (0, 5)), (3, (0, 2))]) (stN := []) (hsC := [jgh]) (v := (9, 0)) (st2 := []) (jA_116_1408 (d := 0)) (by rfl) (by rfl) (by decide +kernel) (by rfl) (by rfl) (by omega) (by omega) (by omega) (by omega) rfl ?_
  refine jT_xaload_n (v := (4, 0)) (pcN := 16) jI_140_15 rfl rfl rfl ?_
  refine jT_xiload_n (v := (0, 2)) (pcN := 17) jI_140_16 rfl rfl rfl ?_
  refine jT_xiconst (k := 0) (pcN := 18) jI_140_17 rfl ?_
  refine jT_xiconst (k := 2) (pcN := 19) jI_140_18 rfl ?_
  refine jT_fR [0] 21 (y := 116) (pcN := 22) (dC := 0) (bc1 := 0) (bc2 := 0) (c1 := 0) (c2 := 0) (as := [(4, 0), (0, 2), (0, 0), (0, 2)]) (asC := [(4, 0), (0, 2), (0, 0), (0, 2)]) (LN := [(0, (4, 0)), (1, (0, x1)), (2, (0, 5)), (3, (0, 2))]) (stN := []) (hsC := [jgh]) (v := (9, 0)) (st2 := []) (jA_116_1301 (d := 0)) (by rfl) (by rfl) (by decide +kernel) (by rfl) (by rfl) (by omega) (by omega) (by omega) (by omega) rfl ?_
  refine jT_xaload_n (v := (4, 0)) (pcN := 23) jI_140_22 rfl rfl rfl ?_
  refine jT_xaload_n (v := (4, 0)) (pcN := 24) jI_140_23 rfl rfl rfl ?_
  refine jT_xgetf (a := 0) (t := 1) (ci := 13) (fi := 11) (c := jzA_5) (v := (4, 11)) (pcN := 27) jI_140_24 rfl rfl rfl rfl rfl rfl rfl ?_
  refine jT_xiload_n (v := (0, x1)) (pcN := 28) jI_140_27 rfl rfl rfl ?_
  refine jT_fR [11, 14, 15, 16, 17, 18, 19] 21 (y := 57) (pcN := 31) (dC := 0) (bc1 := 0) (bc2 := 0) (c1 := 0) (c2 := 0) (as := [(4, 11), (0, x1)]) (asC := [(4, 0), (0, x1)]) (LN := [(0, (4, 0)), (1, (0, x1)), (2, (0, 5)), (3, (0, 2))]) (stN := [(4, 0)]) (hsC := jpA_47) (v := (4, 6)) (st2 := [(4, 19), (4, 0)]) (jA_57_108 (d := 0) (by omega)) (by rfl) (by rfl) (by decide +kernel) (by rfl) (by rfl) (by omega) (by omega) (by omega) (by omega) rfl ?_
  refine jT_xiload_n (v := (0, 5)) (pcN := 32) jI_140_31 rfl rfl rfl ?_
  refine jT_xiload_n (v := (0, 2)) (pcN := 33) jI_140_32 rfl rfl rfl ?_
  refine jT_fR [0, 19, 1, 2, 3, 4, 5, 6, 7, 8, 9, 10, 11, 20, 12, 13] 21 (y := 108) (pcN := 36) (dC := 4) (bc1 := 0) (bc2 := 0) (c1 := 0) (c2 := 0) (as := [(4, 0), (4, 19), (0, 5), (0, 2)]) (asC := [(4, 0), (4, 1), (0, 5), (0, 2)]) (LN := [(0, (4, 0)), (1, (0, x1)), (2, (0, 5)), (3, (0, 2))]) (stN := []) (hsC := jpA_4325) (v := (1, 0)) (st2 := [(1, 0)]) (jA_108_1427 (d := 0)) (by rfl) (by rfl) (by decide +kernel) (by rfl) (by rfl) (by omega) (by omega) (by omega) (by omega) rfl ?_
  exact jT_ret rfl (by decide) (by show 21 ≤ 21; decide) (by omega) (by omega) ⟨rfl, rfl, rfl⟩
theorem jA_347_1429 {xs : List Int} {d : Nat} {x1 : Int} (h_x1 : 0 ≤ x1 ∧ x1 ≤ 7) : jT xs (d + 6) 347 22 0 [(0, (4, 0)), (1, (0, x1)), (2, (0, 5)), (3, (0, 2)), (4, (4, 1))] [] jpA_4038 0 0 (fun k v hsN => k = 0 ∧ v = (0, 0) ∧ hsN = jpA_4038 ++ []) := by
  refine jT_xaload (v := (4, 1)) (pcN := 2) jI_347_0 rfl rfl rfl ?_
  refine jT_xiconst (k := 0) (pcN := 3) jI_347_2 rfl ?_
  refine jT_xaload_n (v := (4, 0)) (pcN := 4) jI_347_3 rfl rfl rfl ?_
  refine jT_xiload_n (v := (0, x1)) (pcN := 5) jI_347_4 rfl rfl rfl ?_
  refine jT_xiload_n (v := (0, 5)) (pcN := 6) jI_347_5 rfl rfl rfl ?_
  refine jT_xiload_n (v := (0, 2)) (pcN := 7) jI_347_6 rfl rfl rfl ?_
  refine jT_fR [0, 2, 3, 4, 5, 6, 7, 8, 9, 10, 11, 12, 13, 14, 15, 16, 17, 18, 19, 20, 21] 22 (y := 140) (pcN := 10) (dC := 5) (bc1 := 0) (bc2 := 0) (c1 := 0) (c2 := 0) (as := [(4, 0), (0, x1), (0, 5), (0, 2)]) (asC := [(4, 0), (0, x1), (0, 5), (0, 2)]) (LN := [(0, (4, 0)), (1, (0, x1)), (2, (0, 5)), (3, (0, 2)), (4, (4, 1))]) (stN := [(0, 0), (4, 1)]) (hsC := jpA_3958) (v := (1, 0)) (st2 := [(1, 0), (0, 0), (4, 1)]) (jA_140_1428 (d := 0) (by omega)) (by rfl) (by rfl) (by decide +kernel) (by rfl) (by rfl) (by omega) (by omega) (by omega) (by omega) rfl ?_
  refine jT_adv 1 (pcN := 11) (LN := [(0, (4, 0)), (1, (0, x1)), (2, (0, 5)), (3, (0, 2)), (4, (4, 1))]) (stN := []) (hsN := jpA_4038) (c1 := 0) (s1 := 0) (c2 := 0) (s2 := 0) (by exact rfl) ?_ (by omega) (by omega)
  refine jT_xgoto (pcN := 22) jI_347_11 rfl ?_
  refine jT_xiconst (k := 0) (pcN := 23) jI_347_22 rfl ?_
  exact jT_ret rfl (by decide) (by show 22 ≤ 22; decide) (by omega) (by omega) ⟨rfl, rfl, rfl⟩
theorem jA_265_1430 {xs : List Int} {d : Nat} : jT xs (d + 7) 265 22 0 [(0, (4, 0)), (1, (1, 100000)), (3, (0, 2))] [] jpA_684 10 360 (fun k v hsN => k = 0 ∧ v = (1, 0) ∧ hsN = jpA_684 ++ jpA_3654) := by
  refine jT_advK 4 (pcN := 6) (LN := [(0, (4, 0)), (1, (1, 100000)), (3, (0, 2))]) (stN := [(1, 120000000), (4, 0)]) (hsN := jpA_684) (c1 := 0) (s1 := 0) (c2 := 10) (s2 := 360) (by decide +kernel) ?_ (by omega) (by omega)
  refine jT_fA [0, 1, 2, 3, 4, 5, 6, 7, 8, 9, 10, 11, 12, 13, 14, 15] 22 (y := 218) (pcN := 9) (dC := 0) (bc1 := 1) (bc2 := 6) (c1 := 9) (c2 := 354) (as := [(4, 0), (1, 120000000)]) (asC := [(4, 0), (1, 120000000)]) (LN := [(0, (4, 0)), (1, (1, 100000)), (3, (0, 2))]) (stN := []) (hsC := jpA_147) (ex := [(101, [], [0, 0, 0, 0, 0, 0])]) (v := (4, 16)) (st2 := [(4, 22)]) (hs2 := jpA_3652) (jA_218_1416 (d := 0)) (by rfl) (by rfl) (by decide +kernel) (by rfl) (by rfl) (by omega) (by omega) (by omega) (by omega) rfl (by decide +kernel) ?_
  refine jT_advK 8 (pcN := 23) (LN := [(4, (4, 22)), (0, (4, 0)), (1, (1, 100000)), (3, (0, 2))]) (stN := [(1, 1), (4, 22), (4, 0)]) (hsN := jpA_3652) (c1 := 0) (s1 := 0) (c2 := 9) (s2 := 354) (by decide +kernel) ?_ (by omega) (by omega)
  refine jT_fA [0, 22, 1, 2, 3, 4, 5, 6, 7, 8, 9, 10, 11, 12, 13, 14, 15, 16, 17, 18, 19, 20, 21] 23 (y := 216) (pcN := 26) (dC := 6) (bc1 := 9) (bc2 := 354) (c1 := 0) (c2 := 0) (as := [(4, 0), (4, 22), (1, 1)]) (asC := [(4, 0), (4, 1), (1, 1)]) (LN := [(4, (4, 22)), (0, (4, 0)), (1, (1, 100000)), (3, (0, 2))]) (stN := []) (hsC := jpA_987) (ex := jpA_839) (v := (1, 0)) (st2 := [(1, 0)]) (hs2 := jpA_3653) (jA_216_228 (d := 0)) (by rfl) (by rfl) (by decide +kernel) (by rfl) (by rfl) (by omega) (by omega) (by omega) (by omega) rfl (by decide +kernel) ?_
  exact jT_ret rfl (by decide) (by show 22 ≤ 32; decide) (by omega) (by omega) ⟨rfl, rfl, rfl⟩
theorem jA_263_1431 {xs : List Int} {d : Nat} {x1 : Int} (h_x1 : 0 ≤ x1 ∧ x1 ≤ 7) : jT xs (d + 8) 263 22 0 [(0, (4, 0)), (1, (0, x1)), (2, (0, 5)), (3, (0, 2))] [] jpA_1695 10 360 (fun k v hsN => k = 0 ∧ v = (1, 0) ∧ hsN = jpA_1695 ++ jpA_3654) := by
  refine jT_xaload_n (v := (4, 0)) (pcN := 1) jI_263_0 rfl rfl rfl ?_
  refine jT_xiload_n (v := (0, x1)) (pcN := 2) jI_263_1 rfl rfl rfl ?_
  refine jT_fR [] 22 (y := 188) (pcN := 5) (dC := 1) (bc1 := 0) (bc2 := 0) (c1 := 10) (c2 := 360) (as := [(0, x1)]) (asC := [(0, x1)]) (LN := [(0, (4, 0)), (1, (0, x1)), (2, (0, 5)), (3, (0, 2))]) (stN := [(4, 0)]) (hsC := []) (v := (0, 1)) (st2 := [(0, 1), (4, 0)]) (jA_188_13 (d := 0) (by omega)) (by rfl) (by rfl) (by decide +kernel) (by rfl) (by rfl) (by omega) (by omega) (by omega) (by omega) rfl ?_
  refine jT_fR [0, 1, 2, 3, 4, 5, 6, 7, 8, 9, 10, 11, 12, 13, 14, 15] 22 (y := 190) (pcN := 8) (dC := 1) (bc1 := 0) (bc2 := 0) (c1 := 10) (c2 := 360) (as := [(4, 0), (0, 1)]) (asC := [(4, 0), (0, 1)]) (LN := [(0, (4, 0)), (1, (0, x1)), (2, (0, 5)), (3, (0, 2))]) (stN := []) (hsC := jpA_22) (v := (0, 0)) (st2 := [(0, 0)]) (jA_190_39 (d := 0)) (by rfl) (by rfl) (by decide +kernel) (by rfl) (by rfl) (by omega) (by omega) (by omega) (by omega) rfl ?_
  refine jT_xifF (t := 48) (pcN := 11) jI_263_8 rfl (by decide +kernel) rfl rfl ?_
  refine jT_xaload_n (v := (4, 0)) (pcN := 12) jI_263_11 rfl rfl rfl ?_
  refine jT_xiload_n (v := (0, 5)) (pcN := 13) jI_263_12 rfl rfl rfl ?_
  refine jT_xi2l (x := 5) (z := 5) (pcN := 14) jI_263_13 rfl (by decide +kernel) rfl ?_
  refine jT_xlconst (z := 0) (pcN := 15) jI_263_14 rfl rfl ?_
  refine jT_adv 1 (pcN := 18) (LN := [(0, (4, 0)), (1, (0, x1)), (2, (0, 5)), (3, (0, 2))]) (stN := [(1, 9), (1, 0), (1, 5), (4, 0)]) (hsN := jpA_1695) (c1 := 0) (s1 := 0) (c2 := 10) (s2 := 360) (by exact rfl) ?_ (by omega) (by omega)
  refine jT_fR [] 22 (y := 189) (pcN := 21) (dC := 0) (bc1 := 0) (bc2 := 0) (c1 := 10) (c2 := 360) (as := [(1, 5), (1, 0), (1, 9)]) (asC := [(1, 5), (1, 0), (1, 9)]) (LN := [(0, (4, 0)), (1, (0, x1)), (2, (0, 5)), (3, (0, 2))]) (stN := [(4, 0)]) (hsC := []) (v := (0, 1)) (st2 := [(0, 1), (4, 0)]) (jA_189_1414 (d := 0)) (by rfl) (by rfl) (by decide +kernel) (by rfl) (by rfl) (by omega) (by omega) (by omega) (by omega) rfl ?_
  refine jT_xifF (t := 40) (pcN := 24) jI_263_21 rfl (by decide +kernel) rfl rfl ?_
  refine jT_xiload_n (v := (0, 2)) (pcN := 25) jI_263_24 rfl rfl rfl ?_
  refine jT_xi2l (x := 2) (z := 2) (pcN := 26) jI_263_25 rfl (by decide +kernel) rfl ?_
  refine jT_xlconst (z := 0) (pcN := 27) jI_263_26 rfl rfl ?_
  refine jT_adv 1 (pcN := 30) (LN := [(0, (4, 0)), (1, (0, x1)), (2, (0, 5)), (3, (0, 2))]) (stN := [(1, 2), (1, 0), (1, 2), (4, 0)]) (hsN := jpA_1695) (c1 := 0) (s1 := 0) (c2 := 10) (s2 := 360) (by exact rfl) ?_ (by omega) (by omega)
  refine jT_fR [] 22 (y := 189) (pcN := 33) (dC := 0) (bc1 := 0) (bc2 := 0) (c1 := 10) (c2 := 360) (as := [(1, 2), (1, 0), (1, 2)]) (asC := [(1, 2), (1, 0), (1, 2)]) (LN := [(0, (4, 0)), (1, (0, x1)), (2, (0, 5)), (3, (0, 2))]) (stN := [(4, 0)]) (hsC := []) (v := (0, 1)) (st2 := [(0, 1), (4, 0)]) (jA_189_1305 (d := 0)) (by rfl) (by rfl) (by decide +kernel) (by rfl) (by rfl) (by omega) (by omega) (by omega) (by omega) rfl ?_
  refine jT_xifF (t := 40) (pcN := 36) jI_263_33 rfl (by decide +kernel) rfl rfl ?_
  refine jT_xiconst (k := 1) (pcN := 37) jI_263_36 rfl ?_
  refine jT_xgoto (pcN := 41) jI_263_37 rfl ?_
  refine jT_xiconst (k := 2) (pcN := 42) jI_263_41 rfl ?_
  refine jT_fR [0] 22 (y := 191) (pcN := 45) (dC := 0) (bc1 := 0) (bc2 := 0) (c1 := 10) (c2 := 360) (as := [(4, 0), (0, 1), (0, 2)]) (asC := [(4, 0), (0, 1), (0, 2)]) (LN := [(0, (4, 0)), (1, (0, x1)), (2, (0, 5)), (3, (0, 2))]) (stN := []) (hsC := [jgh]) (v := (0, 0)) (st2 := [(0, 0)]) (jA_191_49 (d := 0)) (by rfl) (by rfl) (by decide +kernel) (by rfl) (by rfl) (by omega) (by omega) (by omega) (by omega) rfl ?_
  refine jT_xifT (pcN := 50) jI_263_45 rfl (by decide +kernel) rfl ?_
  refine jT_xaload_n (v := (4, 0)) (pcN := 51) jI_263_50 rfl rfl rfl ?_
  refine jT_xiload_n (v := (0, x1)) (pcN := 52) jI_263_51 rfl rfl rfl ?_
  refine jT_fR [0, 1, 2, 3, 4, 5, 6, 7, 8, 9, 10, 11, 12, 13, 14, 15] 22 (y := 202) (pcN := 55) (dC := 1) (bc1 := 0) (bc2 := 0) (c1 := 10) (c2 := 360) (as := [(4, 0), (0, x1)]) (asC := [(4, 0), (0, x1)]) (LN := [(0, (4, 0)), (1, (0, x1)), (2, (0, 5)), (3, (0, 2))]) (stN := []) (hsC := jpA_130) (v := (9, 0)) (st2 := []) (jA_202_115 (d := 0) (by omega)) (by rfl) (by rfl) (by decide +kernel) (by rfl) (by rfl) (by omega) (by omega) (by omega) (by omega) rfl ?_
  refine jT_xaload_n (v := (4, 0)) (pcN := 56) jI_263_55 rfl rfl rfl ?_
  refine jT_xiload_n (v := (0, 5)) (pcN := 57) jI_263_56 rfl rfl rfl ?_
  refine jT_fR [] 22 (y := 264) (pcN := 60) (dC := 0) (bc1 := 0) (bc2 := 0) (c1 := 10) (c2 := 360) (as := [(0, 5)]) (asC := [(0, 5)]) (LN := [(0, (4, 0)), (1, (0, x1)), (2, (0, 5)), (3, (0, 2))]) (stN := [(4, 0)]) (hsC := []) (v := (1, 100000)) (st2 := [(1, 100000), (4, 0)]) (jA_264_1415 (d := 0)) (by rfl) (by rfl) (by decide +kernel) (by rfl) (by rfl) (by omega) (by omega) (by omega) (by omega) rfl ?_
  refine jT_xiload_n (v := (0, 2)) (pcN := 61) jI_263_60 rfl rfl rfl ?_
  refine jT_fA [0, 1, 2, 3, 4, 5, 6, 7, 8, 9, 10, 11, 12, 13, 14, 15, 16, 17, 18, 19, 20, 21] 22 (y := 265) (pcN := 64) (dC := 7) (bc1 := 10) (bc2 := 360) (c1 := 0) (c2 := 0) (as := [(4, 0), (1, 100000), (0, 2)]) (asC := [(4, 0), (1, 100000), (0, 2)]) (LN := [(0, (4, 0)), (1, (0, x1)), (2, (0, 5)), (3, (0, 2))]) (stN := []) (hsC := jpA_684) (ex := jpA_3654) (v := (1, 0)) (st2 := [(1, 0)]) (hs2 := jpA_3655) (jA_265_1430 (d := 0)) (by rfl) (by rfl) (by decide +kernel) (by rfl) (by rfl) (by omega) (by omega) (by omega) (by omega) rfl (by decide +kernel) ?_
  exact jT_ret rfl (by decide) (by show 22 ≤ 32; decide) (by omega) (by omega) ⟨rfl, rfl, rfl⟩
theorem jA_116_1432 {xs : List Int} {d : Nat} {x2 : Int} (h_x2 : 6 ≤ x2 ∧ x2 ≤ 9) : jT xs d 116 1 0 [(0, (4, 0)), (1, (0, x2)), (2, (0, 0)), (3, (0, 9))] [] [jgh] 0 0 (fun k v hsN => k = 0 ∧ v = (9, 0) ∧ hsN = [jgh] ++ []) := by
  refine jT_xiload_n (v := (0, x2)) (pcN := 1) jI_116_0 rfl rfl rfl ?_
  refine jT_xiload_n (v := (0, 0)) (pcN := 2) jI_116_1 rfl rfl rfl ?_
  refine jT_icF (a := x2) (b := 0) (t := 10) (by rfl) (by rfl) (by rfl) (jw_idd (by omega) (by omega)) (jw_idd (by omega) (by omega)) (by simp only [jcP] <;> omega) ?_
  refine jT_xiload_n (v := (0, x2)) (pcN := 6) jI_116_5 rfl rfl rfl ?_
  refine jT_xiload_n (v := (0, 9)) (pcN := 7) jI_116_6 rfl rfl rfl ?_
  refine jT_icT (a := x2) (b := 9) (t := 21) (by rfl) (by rfl) (by rfl) (jw_idd (by omega) (by omega)) (jw_idd (by omega) (by omega)) (by simp only [jcP] <;> omega) ?_
  exact jT_ret rfl (by decide) (by show 1 ≤ 1; decide) (by omega) (by omega) ⟨rfl, rfl, rfl⟩
theorem jA_116_1433 {xs : List Int} {d : Nat} : jT xs d 116 1 0 [(0, (4, 0)), (1, (0, 6)), (2, (0, 0)), (3, (0, 9))] [] [jgh] 0 0 (fun k v hsN => k = 0 ∧ v = (9, 0) ∧ hsN = [jgh] ++ []) := by
  refine jT_advK 6 (pcN := 21) (LN := [(0, (4, 0)), (1, (0, 6)), (2, (0, 0)), (3, (0, 9))]) (stN := []) (hsN := [jgh]) (c1 := 0) (s1 := 0) (c2 := 0) (s2 := 0) (by decide +kernel) ?_ (by omega) (by omega)
  exact jT_ret rfl (by decide) (by show 1 ≤ 1; decide) (by omega) (by omega) ⟨rfl, rfl, rfl⟩
theorem jA_45_1434 {xs : List Int} {d : Nat} : jT xs (d + 1) 45 4 0 [(0, (4, 0)), (1, (4, 1)), (2, (1, 1)), (4, (1, 1200000000))] [] jpA_625 0 0 (fun k v hsN => k = 0 ∧ v = (1, 0) ∧ hsN = jpA_625 ++ []) := by
  refine jT_advK 10 (pcN := 17) (LN := [(0, (4, 0)), (1, (4, 1)), (2, (1, 1)), (4, (1, 1200000000))]) (stN := [(4, 1), (4, 0)]) (hsN := jpA_625) (c1 := 0) (s1 := 0) (c2 := 0) (s2 := 0) (by decide +kernel) ?_ (by omega) (by omega)
  refine jT_fR [0, 1] 4 (y := 39) (pcN := 20) (dC := 0) (bc1 := 0) (bc2 := 0) (c1 := 0) (c2 := 0) (as := [(4, 0), (4, 1)]) (asC := [(4, 0), (4, 1)]) (LN := [(0, (4, 0)), (1, (4, 1)), (2, (1, 1)), (4, (1, 1200000000))]) (stN := []) (hsC := [jgh, (101, [], [0, 0, 0, 0, 0, 0])]) (v := (1, 0)) (st2 := [(1, 0)]) (jA_39_144 (d := 0)) (by rfl) (by rfl) (by decide +kernel) (by rfl) (by rfl) (by omega) (by omega) (by omega) (by omega) rfl ?_
  refine jT_advK 11 (pcN := 36) (LN := [(6, (1, 0)), (0, (4, 0)), (1, (4, 1)), (2, (1, 1)), (4, (1, 1200000000))]) (stN := [(1, 1), (1, 0)]) (hsN := jpA_625) (c1 := 0) (s1 := 0) (c2 := 0) (s2 := 0) (by decide +kernel) ?_ (by omega) (by omega)
  refine jT_fR [] 4 (y := 373) (pcN := 39) (dC := 0) (bc1 := 0) (bc2 := 0) (c1 := 0) (c2 := 0) (as := [(1, 0), (1, 1)]) (asC := [(1, 0), (1, 1)]) (LN := [(6, (1, 0)), (0, (4, 0)), (1, (4, 1)), (2, (1, 1)), (4, (1, 1200000000))]) (stN := []) (hsC := []) (v := (1, 0)) (st2 := [(1, 0)]) (jA_373_145 (d := 0)) (by rfl) (by rfl) (by decide +kernel) (by rfl) (by rfl) (by omega) (by omega) (by omega) (by omega) rfl ?_
  exact jT_ret rfl (by decide) (by show 4 ≤ 4; decide) (by omega) (by omega) ⟨rfl, rfl, rfl⟩
theorem jA_44_1435 {xs : List Int} {d : Nat} : jT xs (d + 2) 44 5 0 [(0, (4, 0)), (1, (4, 1)), (2, (1, 1200000000))] [] jpA_626 0 0 (fun k v hsN => k = 0 ∧ v = (1, 0) ∧ hsN = jpA_626 ++ []) := by
  refine jT_advK 6 (pcN := 10) (LN := [(0, (4, 0)), (1, (4, 1)), (2, (1, 1200000000))]) (stN := [(1, 1200000000), (1, 1), (4, 4), (4, 0)]) (hsN := jpA_626) (c1 := 0) (s1 := 0) (c2 := 0) (s2 := 0) (by decide +kernel) ?_ (by omega) (by omega)
  refine jT_fR [0, 4, 2, 3] 5 (y := 45) (pcN := 13) (dC := 1) (bc1 := 0) (bc2 := 0) (c1 := 0) (c2 := 0) (as := [(4, 0), (4, 4), (1, 1), (1, 1200000000)]) (asC := [(4, 0), (4, 1), (1, 1), (1, 1200000000)]) (LN := [(0, (4, 0)), (1, (4, 1)), (2, (1, 1200000000))]) (stN := []) (hsC := jpA_625) (v := (1, 0)) (st2 := [(1, 0)]) (jA_45_1434 (d := 0)) (by rfl) (by rfl) (by decide +kernel) (by rfl) (by rfl) (by omega) (by omega) (by omega) (by omega) rfl ?_
  exact jT_ret rfl (by decide) (by show 5 ≤ 5; decide) (by omega) (by omega) ⟨rfl, rfl, rfl⟩
theorem jA_108_1436 {xs : List Int} {d : Nat} : jT xs (d + 3) 108 16 0 [(0, (4, 0)), (1, (4, 1)), (2, (0, 6)), (3, (0, 0))] [] jpA_4325 0 0 (fun k v hsN => k = 0 ∧ v = (1, 0) ∧ hsN = jpA_4325 ++ []) := by
  refine jT_advK 70 (pcN := 55) (LN := [(6, (0, 6)), (4, (1, 1200000000)), (0, (4, 0)), (1, (4, 1)), (2, (0, 6)), (3, (0, 0))]) (stN := [(1, 1200000000), (4, 1), (4, 2)]) (hsN := jpA_4325) (c1 := 0) (s1 := 0) (c2 := 0) (s2 := 0) (by decide +kernel) ?_ (by omega) (by omega)
  refine jT_fR [2, 1, 14, 15, 13] 16 (y := 44) (pcN := 58) (dC := 2) (bc1 := 0) (bc2 := 0) (c1 := 0) (c2 := 0) (as := [(4, 2), (4, 1), (1, 1200000000)]) (asC := [(4, 0), (4, 1), (1, 1200000000)]) (LN := [(6, (0, 6)), (4, (1, 1200000000)), (0, (4, 0)), (1, (4, 1)), (2, (0, 6)), (3, (0, 0))]) (stN := []) (hsC := jpA_626) (v := (1, 0)) (st2 := [(1, 0)]) (jA_44_1435 (d := 0)) (by rfl) (by rfl) (by decide +kernel) (by rfl) (by rfl) (by omega) (by omega) (by omega) (by omega) rfl ?_
  exact jT_ret rfl (by decide) (by show 16 ≤ 16; decide) (by omega) (by omega) ⟨rfl, rfl, rfl⟩
theorem jA_140_1437 {xs : List Int} {d : Nat} {x1 : Int} (h_x1 : 0 ≤ x1 ∧ x1 ≤ 7) : jT xs (d + 4) 140 21 0 [(0, (4, 0)), (1, (0, x1)), (2, (0, 6)), (3, (0, 0))] [] jpA_3958 0 0 (fun k v hsN => k = 0 ∧ v = (1, 0) ∧ hsN = jpA_3958 ++ []) := by
  refine jT_xaload_n (v := (4, 0)) (pcN := 1) jI_140_0 rfl rfl rfl ?_
  refine jT_xiload_n (v := (0, x1)) (pcN := 2) jI_140_1 rfl rfl rfl ?_
  refine jT_xbipush (k := 8) (pcN := 4) jI_140_2 (by decide) rfl ?_
  refine jT_fR [0] 21 (y := 115) (pcN := 7) (dC := 0) (bc1 := 0) (bc2 := 0) (c1 := 0) (c2 := 0) (as := [(4, 0), (0, x1), (0, 8)]) (asC := [(4, 0), (0, x1), (0, 8)]) (LN := [(0, (4, 0)), (1, (0, x1)), (2, (0, 6)), (3, (0, 0))]) (stN := []) (hsC := [jgh]) (v := (9, 0)) (st2 := []) (jA_115_9 (d := 0) (by omega)) (by rfl) (by rfl) (by decide +kernel) (by rfl) (by rfl) (by omega) (by omega) (by omega) (by omega) rfl ?_
  refine jT_xaload_n (v := (4, 0)) (pcN := 8) jI_140_7 rfl rfl rfl ?_
  refine jT_xiload_n (v := (0, 6)) (pcN := 9) jI_140_8 rfl rfl rfl ?_
  refine jT_xiconst (k := 0) (pcN := 10) jI_140_9 rfl ?_
  refine jT_xbipush (k := 9) (pcN := 12) jI_140_10 (by decide) rfl ?_
  refine jT_fR [0] 21 (y := 116) (pcN := 15) (dC := 0) (bc1 := 0) (bc2 := 0) (c1 := 0) (c2 := 0) (as := [(4, 0), (0, 6), (0, 0), (0, 9)]) (asC := [(4, 0), (0, 6), (0, 0), (0, 9)]) (LN := [(0, (4, 0)), (1, (0, x1)), (2, (0, 6)), (3, (0, 0))]) (stN := []) (hsC := [jgh]) (v := (9, 0)) (st2 := []) (jA_116_1433 (d := 0)) (by rfl) (by rfl) (by decide +kernel) (by rfl) (by rfl) (by omega) (by omega) (by omega) (by omega) rfl ?_
  refine jT_xaload_n (v := (4, 0)) (pcN := 16) jI_140_15 rfl rfl rfl ?_
  refine jT_xiload_n (v := (0, 0)) (pcN := 17) jI_140_16 rfl rfl rfl ?_
  refine jT_xiconst (k := 0) (pcN := 18) jI_140_17 rfl ?_
  refine jT_xiconst (k := 2) (pcN := 19) jI_140_18 rfl ?_
  refine jT_fR [0] 21 (y := 116) (pcN := 22) (dC := 0) (bc1 := 0) (bc2 := 0) (c1 := 0) (c2 := 0) (as := [(4, 0), (0, 0), (0, 0), (0, 2)]) (asC := [(4, 0), (0, 0), (0, 0), (0, 2)]) (LN := [(0, (4, 0)), (1, (0, x1)), (2, (0, 6)), (3, (0, 0))]) (stN := []) (hsC := [jgh]) (v := (9, 0)) (st2 := []) (jA_116_1279 (d := 0)) (by rfl) (by rfl) (by decide +kernel) (by rfl) (by rfl) (by omega) (by omega) (by omega) (by omega) rfl ?_
  refine jT_xaload_n (v := (4, 0)) (pcN := 23) jI_140_22 rfl rfl rfl ?_
  refine jT_xaload_n (v := (4, 0)) (pcN := 24) jI_140_23 rfl rfl rfl ?_
  refine jT_xgetf (a := 0) (t := 1) (ci := 13) (fi := 11) (c := jzA_5) (v := (4, 11)) (pcN := 27) jI_140_24 rfl rfl rfl rfl rfl rfl rfl ?_
  refine jT_xiload_n (v := (0, x1)) (pcN := 28) jI_140_27 rfl rfl rfl ?_
  refine jT_fR [11, 14, 15, 16, 17, 18, 19] 21 (y := 57) (pcN := 31) (dC := 0) (bc1 := 0) (bc2 := 0) (c1 := 0) (c2 := 0) (as := [(4, 11), (0, x1)]) (asC := [(4, 0), (0, x1)]) (LN := [(0, (4, 0)), (1, (0, x1)), (2, (0, 6)), (3, (0, 0))]) (stN := [(4, 0)]) (hsC := jpA_47) (v := (4, 6)) (st2 := [(4, 19), (4, 0)]) (jA_57_108 (d := 0) (by omega)) (by rfl) (by rfl) (by decide +kernel) (by rfl) (by rfl) (by omega) (by omega) (by omega) (by omega) rfl ?_
  refine jT_xiload_n (v := (0, 6)) (pcN := 32) jI_140_31 rfl rfl rfl ?_
  refine jT_xiload_n (v := (0, 0)) (pcN := 33) jI_140_32 rfl rfl rfl ?_
  refine jT_fR [0, 19, 1, 2, 3, 4, 5, 6, 7, 8, 9, 10, 11, 20, 12, 13] 21 (y := 108) (pcN := 36) (dC := 3) (bc1 := 0) (bc2 := 0) (c1 := 0) (c2 := 0) (as := [(4, 0), (4, 19), (0, 6), (0, 0)]) (asC := [(4, 0), (4, 1), (0, 6), (0, 0)]) (LN := [(0, (4, 0)), (1, (0, x1)), (2, (0, 6)), (3, (0, 0))]) (stN := []) (hsC := jpA_4325) (v := (1, 0)) (st2 := [(1, 0)]) (jA_108_1436 (d := 0)) (by rfl) (by rfl) (by decide +kernel) (by rfl) (by rfl) (by omega) (by omega) (by omega) (by omega) rfl ?_
  exact jT_ret rfl (by decide) (by show 21 ≤ 21; decide) (by omega) (by omega) ⟨rfl, rfl, rfl⟩
theorem jA_347_1438 {xs : List Int} {d : Nat} {x1 : Int} (h_x1 : 0 ≤ x1 ∧ x1 ≤ 7) : jT xs (d + 5) 347 22 0 [(0, (4, 0)), (1, (0, x1)), (2, (0, 6)), (3, (0, 0)), (4, (4, 1))] [] jpA_4038 0 0 (fun k v hsN => k = 0 ∧ v = (0, 0) ∧ hsN = jpA_4038 ++ []) := by
  refine jT_xaload (v := (4, 1)) (pcN := 2) jI_347_0 rfl rfl rfl ?_
  refine jT_xiconst (k := 0) (pcN := 3) jI_347_2 rfl ?_
  refine jT_xaload_n (v := (4, 0)) (pcN := 4) jI_347_3 rfl rfl rfl ?_
  refine jT_xiload_n (v := (0, x1)) (pcN := 5) jI_347_4 rfl rfl rfl ?_
  refine jT_xiload_n (v := (0, 6)) (pcN := 6) jI_347_5 rfl rfl rfl ?_
  refine jT_xiload_n (v := (0, 0)) (pcN := 7) jI_347_6 rfl rfl rfl ?_
  refine jT_fR [0, 2, 3, 4, 5, 6, 7, 8, 9, 10, 11, 12, 13, 14, 15, 16, 17, 18, 19, 20, 21] 22 (y := 140) (pcN := 10) (dC := 4) (bc1 := 0) (bc2 := 0) (c1 := 0) (c2 := 0) (as := [(4, 0), (0, x1), (0, 6), (0, 0)]) (asC := [(4, 0), (0, x1), (0, 6), (0, 0)]) (LN := [(0, (4, 0)), (1, (0, x1)), (2, (0, 6)), (3, (0, 0)), (4, (4, 1))]) (stN := [(0, 0), (4, 1)]) (hsC := jpA_3958) (v := (1, 0)) (st2 := [(1, 0), (0, 0), (4, 1)]) (jA_140_1437 (d := 0) (by omega)) (by rfl) (by rfl) (by decide +kernel) (by rfl) (by rfl) (by omega) (by omega) (by omega) (by omega) rfl ?_
  refine jT_adv 1 (pcN := 11) (LN := [(0, (4, 0)), (1, (0, x1)), (2, (0, 6)), (3, (0, 0)), (4, (4, 1))]) (stN := []) (hsN := jpA_4038) (c1 := 0) (s1 := 0) (c2 := 0) (s2 := 0) (by exact rfl) ?_ (by omega) (by omega)
  refine jT_xgoto (pcN := 22) jI_347_11 rfl ?_
  refine jT_xiconst (k := 0) (pcN := 23) jI_347_22 rfl ?_
  exact jT_ret rfl (by decide) (by show 22 ≤ 22; decide) (by omega) (by omega) ⟨rfl, rfl, rfl⟩
theorem jA_189_1439 {xs : List Int} {d : Nat} : jT xs d 189 0 0 [(0, (1, 6)), (2, (1, 0)), (4, (1, 9))] [] [] 0 0 (fun k v hsN => k = 0 ∧ v = (0, 1) ∧ hsN = [] ++ []) := by
  refine jT_advK 10 (pcN := 18) (LN := [(0, (1, 6)), (2, (1, 0)), (4, (1, 9))]) (stN := [(0, 1)]) (hsN := []) (c1 := 0) (s1 := 0) (c2 := 0) (s2 := 0) (by decide +kernel) ?_ (by omega) (by omega)
  exact jT_ret rfl (by decide) (by show 0 ≤ 0; decide) (by omega) (by omega) ⟨rfl, rfl, rfl⟩
theorem jA_264_1440 {xs : List Int} {d : Nat} : jT xs d 264 0 0 [(0, (0, 6))] [] [] 0 0 (fun k v hsN => k = 0 ∧ v = (1, 1000000) ∧ hsN = [] ++ []) := by
  refine jT_advK 62 (pcN := 22) (LN := [(3, (0, 6)), (1, (1, 1000000)), (0, (0, 6))]) (stN := [(1, 1000000)]) (hsN := []) (c1 := 0) (s1 := 0) (c2 := 0) (s2 := 0) (by decide +kernel) ?_ (by omega) (by omega)
  exact jT_ret rfl (by decide) (by show 0 ≤ 0; decide) (by omega) (by omega) ⟨rfl, rfl, rfl⟩
theorem jA_218_1441 {xs : List Int} {d : Nat} : jT xs d 218 16 0 [(0, (4, 0)), (1, (1, 1200000000))] [] jpA_147 1 6 (fun k v hsN => k = 0 ∧ v = (4, 16) ∧ hsN = jpA_147 ++ [(101, [], [0, 0, 0, 0, 0, 0])]) := by
  refine jT_advK 93 (pcN := 35) (LN := [(4, (0, 6)), (3, (4, 16)), (0, (4, 0)), (1, (1, 1200000000))]) (stN := [(4, 16)]) (hsN := jpA_984) (c1 := 1) (s1 := 6) (c2 := 0) (s2 := 0) (by decide +kernel) ?_ (by omega) (by omega)
  exact jT_ret rfl (by decide) (by show 16 ≤ 17; decide) (by omega) (by omega) ⟨rfl, rfl, rfl⟩
theorem jA_265_1442 {xs : List Int} {d : Nat} : jT xs (d + 6) 265 22 0 [(0, (4, 0)), (1, (1, 1000000)), (3, (0, 0))] [] jpA_684 6 186 (fun k v hsN => k = 0 ∧ v = (1, 0) ∧ hsN = jpA_684 ++ jpA_4341) := by
  refine jT_advK 4 (pcN := 6) (LN := [(0, (4, 0)), (1, (1, 1000000)), (3, (0, 0))]) (stN := [(1, 1200000000), (4, 0)]) (hsN := jpA_684) (c1 := 0) (s1 := 0) (c2 := 6) (s2 := 186) (by decide +kernel) ?_ (by omega) (by omega)
  refine jT_fA [0, 1, 2, 3, 4, 5, 6, 7, 8, 9, 10, 11, 12, 13, 14, 15] 22 (y := 218) (pcN := 9) (dC := 0) (bc1 := 1) (bc2 := 6) (c1 := 5) (c2 := 180) (as := [(4, 0), (1, 1200000000)]) (asC := [(4, 0), (1, 1200000000)]) (LN := [(0, (4, 0)), (1, (1, 1000000)), (3, (0, 0))]) (stN := []) (hsC := jpA_147) (ex := [(101, [], [0, 0, 0, 0, 0, 0])]) (v := (4, 16)) (st2 := [(4, 22)]) (hs2 := jpA_3652) (jA_218_1441 (d := 0)) (by rfl) (by rfl) (by decide +kernel) (by rfl) (by rfl) (by omega) (by omega) (by omega) (by omega) rfl (by decide +kernel) ?_
  refine jT_advK 8 (pcN := 34) (LN := [(4, (4, 22)), (0, (4, 0)), (1, (1, 1000000)), (3, (0, 0))]) (stN := [(1, 1), (4, 22), (4, 0)]) (hsN := jpA_3652) (c1 := 0) (s1 := 0) (c2 := 5) (s2 := 180) (by decide +kernel) ?_ (by omega) (by omega)
  refine jT_fA [0, 22, 1, 2, 3, 4, 5, 6, 7, 8, 9, 10, 11, 12, 13, 14, 15, 16, 17, 18, 19, 20, 21] 23 (y := 210) (pcN := 37) (dC := 5) (bc1 := 5) (bc2 := 180) (c1 := 0) (c2 := 0) (as := [(4, 0), (4, 22), (1, 1)]) (asC := [(4, 0), (4, 1), (1, 1)]) (LN := [(4, (4, 22)), (0, (4, 0)), (1, (1, 1000000)), (3, (0, 0))]) (stN := []) (hsC := jpA_987) (ex := jpA_683) (v := (1, 0)) (st2 := [(1, 0)]) (hs2 := jpA_4340) (jA_210_1290 (d := 0)) (by rfl) (by rfl) (by decide +kernel) (by rfl) (by rfl) (by omega) (by omega) (by omega) (by omega) rfl (by decide +kernel) ?_
  refine jT_advK 5 (pcN := 68) (LN := [(5, (1, 0)), (4, (4, 22)), (0, (4, 0)), (1, (1, 1000000)), (3, (0, 0))]) (stN := [(1, 0)]) (hsN := jpA_4340) (c1 := 0) (s1 := 0) (c2 := 0) (s2 := 0) (by decide +kernel) ?_ (by omega) (by omega)
  exact jT_ret rfl (by decide) (by show 22 ≤ 28; decide) (by omega) (by omega) ⟨rfl, rfl, rfl⟩
theorem jA_263_1443 {xs : List Int} {d : Nat} {x1 : Int} (h_x1 : 0 ≤ x1 ∧ x1 ≤ 7) : jT xs (d + 7) 263 22 0 [(0, (4, 0)), (1, (0, x1)), (2, (0, 6)), (3, (0, 0))] [] jpA_1695 6 186 (fun k v hsN => k = 0 ∧ v = (1, 0) ∧ hsN = jpA_1695 ++ jpA_4341) := by
  refine jT_xaload_n (v := (4, 0)) (pcN := 1) jI_263_0 rfl rfl rfl ?_
  refine jT_xiload_n (v := (0, x1)) (pcN := 2) jI_263_1 rfl rfl rfl ?_
  refine jT_fR [] 22 (y := 188) (pcN := 5) (dC := 1) (bc1 := 0) (bc2 := 0) (c1 := 6) (c2 := 186) (as := [(0, x1)]) (asC := [(0, x1)]) (LN := [(0, (4, 0)), (1, (0, x1)), (2, (0, 6)), (3, (0, 0))]) (stN := [(4, 0)]) (hsC := []) (v := (0, 1)) (st2 := [(0, 1), (4, 0)]) (jA_188_13 (d := 0) (by omega)) (by rfl) (by rfl) (by decide +kernel) (by rfl) (by rfl) (by omega) (by omega) (by omega) (by omega) rfl ?_
  refine jT_fR [0, 1, 2, 3, 4, 5, 6, 7, 8, 9, 10, 11, 12, 13, 14, 15] 22 (y := 190) (pcN := 8) (dC := 1) (bc1 := 0) (bc2 := 0) (c1 := 6) (c2 := 186) (as := [(4, 0), (0, 1)]) (asC := [(4, 0), (0, 1)]) (LN := [(0, (4, 0)), (1, (0, x1)), (2, (0, 6)), (3, (0, 0))]) (stN := []) (hsC := jpA_22) (v := (0, 0)) (st2 := [(0, 0)]) (jA_190_39 (d := 0)) (by rfl) (by rfl) (by decide +kernel) (by rfl) (by rfl) (by omega) (by omega) (by omega) (by omega) rfl ?_
  refine jT_xifF (t := 48) (pcN := 11) jI_263_8 rfl (by decide +kernel) rfl rfl ?_
  refine jT_xaload_n (v := (4, 0)) (pcN := 12) jI_263_11 rfl rfl rfl ?_
  refine jT_xiload_n (v := (0, 6)) (pcN := 13) jI_263_12 rfl rfl rfl ?_
  refine jT_xi2l (x := 6) (z := 6) (pcN := 14) jI_263_13 rfl (by decide +kernel) rfl ?_
  refine jT_xlconst (z := 0) (pcN := 15) jI_263_14 rfl rfl ?_
  refine jT_adv 1 (pcN := 18) (LN := [(0, (4, 0)), (1, (0, x1)), (2, (0, 6)), (3, (0, 0))]) (stN := [(1, 9), (1, 0), (1, 6), (4, 0)]) (hsN := jpA_1695) (c1 := 0) (s1 := 0) (c2 := 6) (s2 := 186) (by exact rfl) ?_ (by omega) (by omega)
  refine jT_fR [] 22 (y := 189) (pcN := 21) (dC := 0) (bc1 := 0) (bc2 := 0) (c1 := 6) (c2 := 186) (as := [(1, 6), (1, 0), (1, 9)]) (asC := [(1, 6), (1, 0), (1, 9)]) (LN := [(0, (4, 0)), (1, (0, x1)), (2, (0, 6)), (3, (0, 0))]) (stN := [(4, 0)]) (hsC := []) (v := (0, 1)) (st2 := [(0, 1), (4, 0)]) (jA_189_1439 (d := 0)) (by rfl) (by rfl) (by decide +kernel) (by rfl) (by rfl) (by omega) (by omega) (by omega) (by omega) rfl ?_
  refine jT_xifF (t := 40) (pcN := 24) jI_263_21 rfl (by decide +kernel) rfl rfl ?_
  refine jT_xiload_n (v := (0, 0)) (pcN := 25) jI_263_24 rfl rfl rfl ?_
  refine jT_xi2l (x := 0) (z := 0) (pcN := 26) jI_263_25 rfl (by decide +kernel) rfl ?_
  refine jT_xlconst (z := 0) (pcN := 27) jI_263_26 rfl rfl ?_
  refine jT_adv 1 (pcN := 30) (LN := [(0, (4, 0)), (1, (0, x1)), (2, (0, 6)), (3, (0, 0))]) (stN := [(1, 2), (1, 0), (1, 0), (4, 0)]) (hsN := jpA_1695) (c1 := 0) (s1 := 0) (c2 := 6) (s2 := 186) (by exact rfl) ?_ (by omega) (by omega)
  refine jT_fR [] 22 (y := 189) (pcN := 33) (dC := 0) (bc1 := 0) (bc2 := 0) (c1 := 6) (c2 := 186) (as := [(1, 0), (1, 0), (1, 2)]) (asC := [(1, 0), (1, 0), (1, 2)]) (LN := [(0, (4, 0)), (1, (0, x1)), (2, (0, 6)), (3, (0, 0))]) (stN := [(4, 0)]) (hsC := []) (v := (0, 1)) (st2 := [(0, 1), (4, 0)]) (jA_189_1286 (d := 0)) (by rfl) (by rfl) (by decide +kernel) (by rfl) (by rfl) (by omega) (by omega) (by omega) (by omega) rfl ?_
  refine jT_xifF (t := 40) (pcN := 36) jI_263_33 rfl (by decide +kernel) rfl rfl ?_
  refine jT_xiconst (k := 1) (pcN := 37) jI_263_36 rfl ?_
  refine jT_xgoto (pcN := 41) jI_263_37 rfl ?_
  refine jT_xiconst (k := 2) (pcN := 42) jI_263_41 rfl ?_
  refine jT_fR [0] 22 (y := 191) (pcN := 45) (dC := 0) (bc1 := 0) (bc2 := 0) (c1 := 6) (c2 := 186) (as := [(4, 0), (0, 1), (0, 2)]) (asC := [(4, 0), (0, 1), (0, 2)]) (LN := [(0, (4, 0)), (1, (0, x1)), (2, (0, 6)), (3, (0, 0))]) (stN := []) (hsC := [jgh]) (v := (0, 0)) (st2 := [(0, 0)]) (jA_191_49 (d := 0)) (by rfl) (by rfl) (by decide +kernel) (by rfl) (by rfl) (by omega) (by omega) (by omega) (by omega) rfl ?_
  refine jT_xifT (pcN := 50) jI_263_45 rfl (by decide +kernel) rfl ?_
  refine jT_xaload_n (v := (4, 0)) (pcN := 51) jI_263_50 rfl rfl rfl ?_
  refine jT_xiload_n (v := (0, x1)) (pcN := 52) jI_263_51 rfl rfl rfl ?_
  refine jT_fR [0, 1, 2, 3, 4, 5, 6, 7, 8, 9, 10, 11, 12, 13, 14, 15] 22 (y := 202) (pcN := 55) (dC := 1) (bc1 := 0) (bc2 := 0) (c1 := 6) (c2 := 186) (as := [(4, 0), (0, x1)]) (asC := [(4, 0), (0, x1)]) (LN := [(0, (4, 0)), (1, (0, x1)), (2, (0, 6)), (3, (0, 0))]) (stN := []) (hsC := jpA_130) (v := (9, 0)) (st2 := []) (jA_202_115 (d := 0) (by omega)) (by rfl) (by rfl) (by decide +kernel) (by rfl) (by rfl) (by omega) (by omega) (by omega) (by omega) rfl ?_
  refine jT_xaload_n (v := (4, 0)) (pcN := 56) jI_263_55 rfl rfl rfl ?_
  refine jT_xiload_n (v := (0, 6)) (pcN := 57) jI_263_56 rfl rfl rfl ?_
  refine jT_fR [] 22 (y := 264) (pcN := 60) (dC := 0) (bc1 := 0) (bc2 := 0) (c1 := 6) (c2 := 186) (as := [(0, 6)]) (asC := [(0, 6)]) (LN := [(0, (4, 0)), (1, (0, x1)), (2, (0, 6)), (3, (0, 0))]) (stN := [(4, 0)]) (hsC := []) (v := (1, 1000000)) (st2 := [(1, 1000000), (4, 0)]) (jA_264_1440 (d := 0)) (by rfl) (by rfl) (by decide +kernel) (by rfl) (by rfl) (by omega) (by omega) (by omega) (by omega) rfl ?_
  refine jT_xiload_n (v := (0, 0)) (pcN := 61) jI_263_60 rfl rfl rfl ?_
  refine jT_fA [0, 1, 2, 3, 4, 5, 6, 7, 8, 9, 10, 11, 12, 13, 14, 15, 16, 17, 18, 19, 20, 21] 22 (y := 265) (pcN := 64) (dC := 6) (bc1 := 6) (bc2 := 186) (c1 := 0) (c2 := 0) (as := [(4, 0), (1, 1000000), (0, 0)]) (asC := [(4, 0), (1, 1000000), (0, 0)]) (LN := [(0, (4, 0)), (1, (0, x1)), (2, (0, 6)), (3, (0, 0))]) (stN := []) (hsC := jpA_684) (ex := jpA_4341) (v := (1, 0)) (st2 := [(1, 0)]) (hs2 := jpA_4349) (jA_265_1442 (d := 0)) (by rfl) (by rfl) (by decide +kernel) (by rfl) (by rfl) (by omega) (by omega) (by omega) (by omega) rfl (by decide +kernel) ?_
  exact jT_ret rfl (by decide) (by show 22 ≤ 28; decide) (by omega) (by omega) ⟨rfl, rfl, rfl⟩
theorem jA_108_1444 {xs : List Int} {d : Nat} : jT xs (d + 3) 108 16 0 [(0, (4, 0)), (1, (4, 1)), (2, (0, 6)), (3, (0, 1))] [] jpA_4325 2 8 (fun k v hsN => k = 0 ∧ v = (1, 0) ∧ hsN = jpA_4325 ++ [(101, [], [0, 0, 0, 0, 0, 0]), (4, [(4, 16), (1, 1)], [])]) := by
  refine jT_advK 72 (pcN := 69) (LN := [(6, (0, 6)), (4, (1, 1200000000)), (0, (4, 0)), (1, (4, 1)), (2, (0, 6)), (3, (0, 1))]) (stN := [(1, 0), (1, 1), (1, (-1)), (4, 1), (4, 2)]) (hsN := jpA_4325) (c1 := 0) (s1 := 0) (c2 := 2) (s2 := 8) (by decide +kernel) ?_ (by omega) (by omega)
  refine jT_fA [1, 13] 16 (y := 10) (pcN := 72) (dC := 2) (bc1 := 2) (bc2 := 8) (c1 := 0) (c2 := 0) (as := [(4, 1), (1, (-1)), (1, 1), (1, 0)]) (asC := [(4, 0), (1, (-1)), (1, 1), (1, 0)]) (LN := [(6, (0, 6)), (4, (1, 1200000000)), (0, (4, 0)), (1, (4, 1)), (2, (0, 6)), (3, (0, 1))]) (stN := [(4, 2)]) (hsC := [(4, [(4, 1), (1, 1)], []), (101, [], [0, 0, 0, 0, 0, 0])]) (ex := [(101, [], [0, 0, 0, 0, 0, 0]), (4, [(4, 2), (1, 1)], [])]) (v := (4, 3)) (st2 := [(4, 17), (4, 2)]) (hs2 := jpA_4350) (jA_10_1294 (d := 0)) (by rfl) (by rfl) (by decide +kernel) (by rfl) (by rfl) (by omega) (by omega) (by omega) (by omega) rfl (by decide +kernel) ?_
  refine jT_advK 1 (pcN := 74) (LN := [(6, (0, 6)), (4, (1, 1200000000)), (0, (4, 0)), (1, (4, 1)), (2, (0, 6)), (3, (0, 1))]) (stN := [(1, 1200000000), (4, 17), (4, 2)]) (hsN := jpA_4350) (c1 := 0) (s1 := 0) (c2 := 0) (s2 := 0) (by decide +kernel) ?_ (by omega) (by omega)
  refine jT_fR [2, 17, 14, 15, 16] 18 (y := 44) (pcN := 77) (dC := 2) (bc1 := 0) (bc2 := 0) (c1 := 0) (c2 := 0) (as := [(4, 2), (4, 17), (1, 1200000000)]) (asC := [(4, 0), (4, 1), (1, 1200000000)]) (LN := [(6, (0, 6)), (4, (1, 1200000000)), (0, (4, 0)), (1, (4, 1)), (2, (0, 6)), (3, (0, 1))]) (stN := []) (hsC := jpA_626) (v := (1, 0)) (st2 := [(1, 0)]) (jA_44_1435 (d := 0)) (by rfl) (by rfl) (by decide +kernel) (by rfl) (by rfl) (by omega) (by omega) (by omega) (by omega) rfl ?_
  refine jT_advK 1 (pcN := 78) (LN := [(6, (0, 6)), (4, (1, 1200000000)), (0, (4, 0)), (1, (4, 1)), (2, (0, 6)), (3, (0, 1))]) (stN := [(1, 0)]) (hsN := jpA_4350) (c1 := 0) (s1 := 0) (c2 := 0) (s2 := 0) (by decide +kernel) ?_ (by omega) (by omega)
  exact jT_ret rfl (by decide) (by show 16 ≤ 18; decide) (by omega) (by omega) ⟨rfl, rfl, rfl⟩
theorem jA_140_1445 {xs : List Int} {d : Nat} {x1 : Int} (h_x1 : 0 ≤ x1 ∧ x1 ≤ 7) : jT xs (d + 4) 140 21 0 [(0, (4, 0)), (1, (0, x1)), (2, (0, 6)), (3, (0, 1))] [] jpA_3958 2 8 (fun k v hsN => k = 0 ∧ v = (1, 0) ∧ hsN = jpA_3958 ++ [(101, [], [0, 0, 0, 0, 0, 0]), (4, [(4, 21), (1, 1)], [])]) := by
  refine jT_xaload_n (v := (4, 0)) (pcN := 1) jI_140_0 rfl rfl rfl ?_
  refine jT_xiload_n (v := (0, x1)) (pcN := 2) jI_140_1 rfl rfl rfl ?_
  refine jT_xbipush (k := 8) (pcN := 4) jI_140_2 (by decide) rfl ?_
  refine jT_fR [0] 21 (y := 115) (pcN := 7) (dC := 0) (bc1 := 0) (bc2 := 0) (c1 := 2) (c2 := 8) (as := [(4, 0), (0, x1), (0, 8)]) (asC := [(4, 0), (0, x1), (0, 8)]) (LN := [(0, (4, 0)), (1, (0, x1)), (2, (0, 6)), (3, (0, 1))]) (stN := []) (hsC := [jgh]) (v := (9, 0)) (st2 := []) (jA_115_9 (d := 0) (by omega)) (by rfl) (by rfl) (by decide +kernel) (by rfl) (by rfl) (by omega) (by omega) (by omega) (by omega) rfl ?_
  refine jT_xaload_n (v := (4, 0)) (pcN := 8) jI_140_7 rfl rfl rfl ?_
  refine jT_xiload_n (v := (0, 6)) (pcN := 9) jI_140_8 rfl rfl rfl ?_
  refine jT_xiconst (k := 0) (pcN := 10) jI_140_9 rfl ?_
  refine jT_xbipush (k := 9) (pcN := 12) jI_140_10 (by decide) rfl ?_
  refine jT_fR [0] 21 (y := 116) (pcN := 15) (dC := 0) (bc1 := 0) (bc2 := 0) (c1 := 2) (c2 := 8) (as := [(4, 0), (0, 6), (0, 0), (0, 9)]) (asC := [(4, 0), (0, 6), (0, 0), (0, 9)]) (LN := [(0, (4, 0)), (1, (0, x1)), (2, (0, 6)), (3, (0, 1))]) (stN := []) (hsC := [jgh]) (v := (9, 0)) (st2 := []) (jA_116_1433 (d := 0)) (by rfl) (by rfl) (by decide +kernel) (by rfl) (by rfl) (by omega) (by omega) (by omega) (by omega) rfl ?_
  refine jT_xaload_n (v := (4, 0)) (pcN := 16) jI_140_15 rfl rfl rfl ?_
  refine jT_xiload_n (v := (0, 1)) (pcN := 17) jI_140_16 rfl rfl rfl ?_
  refine jT_xiconst (k := 0) (pcN := 18) jI_140_17 rfl ?_
  refine jT_xiconst (k := 2) (pcN := 19) jI_140_18 rfl ?_
  refine jT_fR [0] 21 (y := 116) (pcN := 22) (dC := 0) (bc1 := 0) (bc2 := 0) (c1 := 2) (c2 := 8) (as := [(4, 0), (0, 1), (0, 0), (0, 2)]) (asC := [(4, 0), (0, 1), (0, 0), (0, 2)]) (LN := [(0, (4, 0)), (1, (0, x1)), (2, (0, 6)), (3, (0, 1))]) (stN := []) (hsC := [jgh]) (v := (9, 0)) (st2 := []) (jA_116_1293 (d := 0)) (by rfl) (by rfl) (by decide +kernel) (by rfl) (by rfl) (by omega) (by omega) (by omega) (by omega) rfl ?_
  refine jT_xaload_n (v := (4, 0)) (pcN := 23) jI_140_22 rfl rfl rfl ?_
  refine jT_xaload_n (v := (4, 0)) (pcN := 24) jI_140_23 rfl rfl rfl ?_
  refine jT_xgetf (a := 0) (t := 1) (ci := 13) (fi := 11) (c := jzA_5) (v := (4, 11)) (pcN := 27) jI_140_24 rfl rfl rfl rfl rfl rfl rfl ?_
  refine jT_xiload_n (v := (0, x1)) (pcN := 28) jI_140_27 rfl rfl rfl ?_
  refine jT_fR [11, 14, 15, 16, 17, 18, 19] 21 (y := 57) (pcN := 31) (dC := 0) (bc1 := 0) (bc2 := 0) (c1 := 2) (c2 := 8) (as := [(4, 11), (0, x1)]) (asC := [(4, 0), (0, x1)]) (LN := [(0, (4, 0)), (1, (0, x1)), (2, (0, 6)), (3, (0, 1))]) (stN := [(4, 0)]) (hsC := jpA_47) (v := (4, 6)) (st2 := [(4, 19), (4, 0)]) (jA_57_108 (d := 0) (by omega)) (by rfl) (by rfl) (by decide +kernel) (by rfl) (by rfl) (by omega) (by omega) (by omega) (by omega) rfl ?_
  refine jT_xiload_n (v := (0, 6)) (pcN := 32) jI_140_31 rfl rfl rfl ?_
  refine jT_xiload_n (v := (0, 1)) (pcN := 33) jI_140_32 rfl rfl rfl ?_
  refine jT_fA [0, 19, 1, 2, 3, 4, 5, 6, 7, 8, 9, 10, 11, 20, 12, 13] 21 (y := 108) (pcN := 36) (dC := 3) (bc1 := 2) (bc2 := 8) (c1 := 0) (c2 := 0) (as := [(4, 0), (4, 19), (0, 6), (0, 1)]) (asC := [(4, 0), (4, 1), (0, 6), (0, 1)]) (LN := [(0, (4, 0)), (1, (0, x1)), (2, (0, 6)), (3, (0, 1))]) (stN := []) (hsC := jpA_4325) (ex := [(101, [], [0, 0, 0, 0, 0, 0]), (4, [(4, 16), (1, 1)], [])]) (v := (1, 0)) (st2 := [(1, 0)]) (hs2 := jpA_4351) (jA_108_1444 (d := 0)) (by rfl) (by rfl) (by decide +kernel) (by rfl) (by rfl) (by omega) (by omega) (by omega) (by omega) rfl (by decide +kernel) ?_
  exact jT_ret rfl (by decide) (by show 21 ≤ 23; decide) (by omega) (by omega) ⟨rfl, rfl, rfl⟩
theorem jA_347_1446 {xs : List Int} {d : Nat} {x1 : Int} (h_x1 : 0 ≤ x1 ∧ x1 ≤ 7) : jT xs (d + 5) 347 22 0 [(0, (4, 0)), (1, (0, x1)), (2, (0, 6)), (3, (0, 1)), (4, (4, 1))] [] jpA_4038 2 8 (fun k v hsN => k = 0 ∧ v = (0, 0) ∧ hsN = jpA_4038 ++ [(101, [], [0, 0, 0, 0, 0, 0]), (4, [(4, 22), (1, 1)], [])]) := by
  refine jT_xaload (v := (4, 1)) (pcN := 2) jI_347_0 rfl rfl rfl ?_
  refine jT_xiconst (k := 0) (pcN := 3) jI_347_2 rfl ?_
  refine jT_xaload_n (v := (4, 0)) (pcN := 4) jI_347_3 rfl rfl rfl ?_
  refine jT_xiload_n (v := (0, x1)) (pcN := 5) jI_347_4 rfl rfl rfl ?_
  refine jT_xiload_n (v := (0, 6)) (pcN := 6) jI_347_5 rfl rfl rfl ?_
  refine jT_xiload_n (v := (0, 1)) (pcN := 7) jI_347_6 rfl rfl rfl ?_
  refine jT_fA [0, 2, 3, 4, 5, 6, 7, 8, 9, 10, 11, 12, 13, 14, 15, 16, 17, 18, 19, 20, 21] 22 (y := 140) (pcN := 10) (dC := 4) (bc1 := 2) (bc2 := 8) (c1 := 0) (c2 := 0) (as := [(4, 0), (0, x1), (0, 6), (0, 1)]) (asC := [(4, 0), (0, x1), (0, 6), (0, 1)]) (LN := [(0, (4, 0)), (1, (0, x1)), (2, (0, 6)), (3, (0, 1)), (4, (4, 1))]) (stN := [(0, 0), (4, 1)]) (hsC := jpA_3958) (ex := [(101, [], [0, 0, 0, 0, 0, 0]), (4, [(4, 21), (1, 1)], [])]) (v := (1, 0)) (st2 := [(1, 0), (0, 0), (4, 1)]) (hs2 := jpA_4352) (jA_140_1445 (d := 0) (by omega)) (by rfl) (by rfl) (by decide +kernel) (by rfl) (by rfl) (by omega) (by omega) (by omega) (by omega) rfl (by decide +kernel) ?_
  refine jT_adv 1 (pcN := 11) (LN := [(0, (4, 0)), (1, (0, x1)), (2, (0, 6)), (3, (0, 1)), (4, (4, 1))]) (stN := []) (hsN := jpA_4352) (c1 := 0) (s1 := 0) (c2 := 0) (s2 := 0) (by exact rfl) ?_ (by omega) (by omega)
  refine jT_xgoto (pcN := 22) jI_347_11 rfl ?_
  refine jT_xiconst (k := 0) (pcN := 23) jI_347_22 rfl ?_
  exact jT_ret rfl (by decide) (by show 22 ≤ 24; decide) (by omega) (by omega) ⟨rfl, rfl, rfl⟩
theorem jA_265_1447 {xs : List Int} {d : Nat} : jT xs (d + 6) 265 22 0 [(0, (4, 0)), (1, (1, 1000000)), (3, (0, 1))] [] jpA_684 7 192 (fun k v hsN => k = 0 ∧ v = (1, 0) ∧ hsN = jpA_684 ++ jpA_4354) := by
  refine jT_advK 4 (pcN := 6) (LN := [(0, (4, 0)), (1, (1, 1000000)), (3, (0, 1))]) (stN := [(1, 1200000000), (4, 0)]) (hsN := jpA_684) (c1 := 0) (s1 := 0) (c2 := 7) (s2 := 192) (by decide +kernel) ?_ (by omega) (by omega)
  refine jT_fA [0, 1, 2, 3, 4, 5, 6, 7, 8, 9, 10, 11, 12, 13, 14, 15] 22 (y := 218) (pcN := 9) (dC := 0) (bc1 := 1) (bc2 := 6) (c1 := 6) (c2 := 186) (as := [(4, 0), (1, 1200000000)]) (asC := [(4, 0), (1, 1200000000)]) (LN := [(0, (4, 0)), (1, (1, 1000000)), (3, (0, 1))]) (stN := []) (hsC := jpA_147) (ex := [(101, [], [0, 0, 0, 0, 0, 0])]) (v := (4, 16)) (st2 := [(4, 22)]) (hs2 := jpA_3652) (jA_218_1441 (d := 0)) (by rfl) (by rfl) (by decide +kernel) (by rfl) (by rfl) (by omega) (by omega) (by omega) (by omega) rfl (by decide +kernel) ?_
  refine jT_advK 8 (pcN := 34) (LN := [(4, (4, 22)), (0, (4, 0)), (1, (1, 1000000)), (3, (0, 1))]) (stN := [(1, 1), (4, 22), (4, 0)]) (hsN := jpA_3652) (c1 := 0) (s1 := 0) (c2 := 6) (s2 := 186) (by decide +kernel) ?_ (by omega) (by omega)
  refine jT_fA [0, 22, 1, 2, 3, 4, 5, 6, 7, 8, 9, 10, 11, 12, 13, 14, 15, 16, 17, 18, 19, 20, 21] 23 (y := 210) (pcN := 37) (dC := 5) (bc1 := 5) (bc2 := 180) (c1 := 1) (c2 := 6) (as := [(4, 0), (4, 22), (1, 1)]) (asC := [(4, 0), (4, 1), (1, 1)]) (LN := [(4, (4, 22)), (0, (4, 0)), (1, (1, 1000000)), (3, (0, 1))]) (stN := []) (hsC := jpA_987) (ex := jpA_683) (v := (1, 0)) (st2 := [(1, 0)]) (hs2 := jpA_4340) (jA_210_1290 (d := 0)) (by rfl) (by rfl) (by decide +kernel) (by rfl) (by rfl) (by omega) (by omega) (by omega) (by omega) rfl (by decide +kernel) ?_
  refine jT_advK 9 (pcN := 53) (LN := [(5, (1, 0)), (4, (4, 22)), (0, (4, 0)), (1, (1, 1000000)), (3, (0, 1))]) (stN := [(1, 0), (4, 22), (4, 0)]) (hsN := jpA_4340) (c1 := 0) (s1 := 0) (c2 := 1) (s2 := 6) (by decide +kernel) ?_ (by omega) (by omega)
  refine jT_fA [0, 22, 1, 2, 3, 4, 5, 6, 7, 8, 9, 10, 11, 12, 13, 14, 15] 28 (y := 212) (pcN := 56) (dC := 2) (bc1 := 1) (bc2 := 6) (c1 := 0) (c2 := 0) (as := [(4, 0), (4, 22), (1, 0)]) (asC := [(4, 0), (4, 1), (1, 0)]) (LN := [(5, (1, 0)), (4, (4, 22)), (0, (4, 0)), (1, (1, 1000000)), (3, (0, 1))]) (stN := []) (hsC := jpA_4335) (ex := [(101, [], [0, 0, 0, 0, 0, 0])]) (v := (0, 0)) (st2 := [(0, 0)]) (hs2 := jpA_4353) (jA_212_1288 (d := 0)) (by rfl) (by rfl) (by decide +kernel) (by rfl) (by rfl) (by omega) (by omega) (by omega) (by omega) rfl (by decide +kernel) ?_
  refine jT_advK 3 (pcN := 68) (LN := [(5, (1, 0)), (4, (4, 22)), (0, (4, 0)), (1, (1, 1000000)), (3, (0, 1))]) (stN := [(1, 0)]) (hsN := jpA_4353) (c1 := 0) (s1 := 0) (c2 := 0) (s2 := 0) (by decide +kernel) ?_ (by omega) (by omega)
  exact jT_ret rfl (by decide) (by show 22 ≤ 29; decide) (by omega) (by omega) ⟨rfl, rfl, rfl⟩
theorem jA_263_1448 {xs : List Int} {d : Nat} {x1 : Int} (h_x1 : 0 ≤ x1 ∧ x1 ≤ 7) : jT xs (d + 7) 263 22 0 [(0, (4, 0)), (1, (0, x1)), (2, (0, 6)), (3, (0, 1))] [] jpA_1695 7 192 (fun k v hsN => k = 0 ∧ v = (1, 0) ∧ hsN = jpA_1695 ++ jpA_4354) := by
  refine jT_xaload_n (v := (4, 0)) (pcN := 1) jI_263_0 rfl rfl rfl ?_
  refine jT_xiload_n (v := (0, x1)) (pcN := 2) jI_263_1 rfl rfl rfl ?_
  refine jT_fR [] 22 (y := 188) (pcN := 5) (dC := 1) (bc1 := 0) (bc2 := 0) (c1 := 7) (c2 := 192) (as := [(0, x1)]) (asC := [(0, x1)]) (LN := [(0, (4, 0)), (1, (0, x1)), (2, (0, 6)), (3, (0, 1))]) (stN := [(4, 0)]) (hsC := []) (v := (0, 1)) (st2 := [(0, 1), (4, 0)]) (jA_188_13 (d := 0) (by omega)) (by rfl) (by rfl) (by decide +kernel) (by rfl) (by rfl) (by omega) (by omega) (by omega) (by omega) rfl ?_
  refine jT_fR [0, 1, 2, 3, 4, 5, 6, 7, 8, 9, 10, 11, 12, 13, 14, 15] 22 (y := 190) (pcN := 8) (dC := 1) (bc1 := 0) (bc2 := 0) (c1 := 7) (c2 := 192) (as := [(4, 0), (0, 1)]) (asC := [(4, 0), (0, 1)]) (LN := [(0, (4, 0)), (1, (0, x1)), (2, (0, 6)), (3, (0, 1))]) (stN := []) (hsC := jpA_22) (v := (0, 0)) (st2 := [(0, 0)]) (jA_190_39 (d := 0)) (by rfl) (by rfl) (by decide +kernel) (by rfl) (by rfl) (by omega) (by omega) (by omega) (by omega) rfl ?_
  refine jT_xifF (t := 48) (pcN := 11) jI_263_8 rfl (by decide +kernel) rfl rfl ?_
  refine jT_xaload_n (v := (4, 0)) (pcN := 12) jI_263_11 rfl rfl rfl ?_
  refine jT_xiload_n (v := (0, 6)) (pcN := 13) jI_263_12 rfl rfl rfl ?_
  refine jT_xi2l (x := 6) (z := 6) (pcN := 14) jI_263_13 rfl (by decide +kernel) rfl ?_
  refine jT_xlconst (z := 0) (pcN := 15) jI_263_14 rfl rfl ?_
  refine jT_adv 1 (pcN := 18) (LN := [(0, (4, 0)), (1, (0, x1)), (2, (0, 6)), (3, (0, 1))]) (stN := [(1, 9), (1, 0), (1, 6), (4, 0)]) (hsN := jpA_1695) (c1 := 0) (s1 := 0) (c2 := 7) (s2 := 192) (by exact rfl) ?_ (by omega) (by omega)
  refine jT_fR [] 22 (y := 189) (pcN := 21) (dC := 0) (bc1 := 0) (bc2 := 0) (c1 := 7) (c2 := 192) (as := [(1, 6), (1, 0), (1, 9)]) (asC := [(1, 6), (1, 0), (1, 9)]) (LN := [(0, (4, 0)), (1, (0, x1)), (2, (0, 6)), (3, (0, 1))]) (stN := [(4, 0)]) (hsC := []) (v := (0, 1)) (st2 := [(0, 1), (4, 0)]) (jA_189_1439 (d := 0)) (by rfl) (by rfl) (by decide +kernel) (by rfl) (by rfl) (by omega) (by omega) (by omega) (by omega) rfl ?_
  refine jT_xifF (t := 40) (pcN := 24) jI_263_21 rfl (by decide +kernel) rfl rfl ?_
  refine jT_xiload_n (v := (0, 1)) (pcN := 25) jI_263_24 rfl rfl rfl ?_
  refine jT_xi2l (x := 1) (z := 1) (pcN := 26) jI_263_25 rfl (by decide +kernel) rfl ?_
  refine jT_xlconst (z := 0) (pcN := 27) jI_263_26 rfl rfl ?_
  refine jT_adv 1 (pcN := 30) (LN := [(0, (4, 0)), (1, (0, x1)), (2, (0, 6)), (3, (0, 1))]) (stN := [(1, 2), (1, 0), (1, 1), (4, 0)]) (hsN := jpA_1695) (c1 := 0) (s1 := 0) (c2 := 7) (s2 := 192) (by exact rfl) ?_ (by omega) (by omega)
  refine jT_fR [] 22 (y := 189) (pcN := 33) (dC := 0) (bc1 := 0) (bc2 := 0) (c1 := 7) (c2 := 192) (as := [(1, 1), (1, 0), (1, 2)]) (asC := [(1, 1), (1, 0), (1, 2)]) (LN := [(0, (4, 0)), (1, (0, x1)), (2, (0, 6)), (3, (0, 1))]) (stN := [(4, 0)]) (hsC := []) (v := (0, 1)) (st2 := [(0, 1), (4, 0)]) (jA_189_1298 (d := 0)) (by rfl) (by rfl) (by decide +kernel) (by rfl) (by rfl) (by omega) (by omega) (by omega) (by omega) rfl ?_
  refine jT_xifF (t := 40) (pcN := 36) jI_263_33 rfl (by decide +kernel) rfl rfl ?_
  refine jT_xiconst (k := 1) (pcN := 37) jI_263_36 rfl ?_
  refine jT_xgoto (pcN := 41) jI_263_37 rfl ?_
  refine jT_xiconst (k := 2) (pcN := 42) jI_263_41 rfl ?_
  refine jT_fR [0] 22 (y := 191) (pcN := 45) (dC := 0) (bc1 := 0) (bc2 := 0) (c1 := 7) (c2 := 192) (as := [(4, 0), (0, 1), (0, 2)]) (asC := [(4, 0), (0, 1), (0, 2)]) (LN := [(0, (4, 0)), (1, (0, x1)), (2, (0, 6)), (3, (0, 1))]) (stN := []) (hsC := [jgh]) (v := (0, 0)) (st2 := [(0, 0)]) (jA_191_49 (d := 0)) (by rfl) (by rfl) (by decide +kernel) (by rfl) (by rfl) (by omega) (by omega) (by omega) (by omega) rfl ?_
  refine jT_xifT (pcN := 50) jI_263_45 rfl (by decide +kernel) rfl ?_
  refine jT_xaload_n (v := (4, 0)) (pcN := 51) jI_263_50 rfl rfl rfl ?_
  refine jT_xiload_n (v := (0, x1)) (pcN := 52) jI_263_51 rfl rfl rfl ?_
  refine jT_fR [0, 1, 2, 3, 4, 5, 6, 7, 8, 9, 10, 11, 12, 13, 14, 15] 22 (y := 202) (pcN := 55) (dC := 1) (bc1 := 0) (bc2 := 0) (c1 := 7) (c2 := 192) (as := [(4, 0), (0, x1)]) (asC := [(4, 0), (0, x1)]) (LN := [(0, (4, 0)), (1, (0, x1)), (2, (0, 6)), (3, (0, 1))]) (stN := []) (hsC := jpA_130) (v := (9, 0)) (st2 := []) (jA_202_115 (d := 0) (by omega)) (by rfl) (by rfl) (by decide +kernel) (by rfl) (by rfl) (by omega) (by omega) (by omega) (by omega) rfl ?_
  refine jT_xaload_n (v := (4, 0)) (pcN := 56) jI_263_55 rfl rfl rfl ?_
  refine jT_xiload_n (v := (0, 6)) (pcN := 57) jI_263_56 rfl rfl rfl ?_
  refine jT_fR [] 22 (y := 264) (pcN := 60) (dC := 0) (bc1 := 0) (bc2 := 0) (c1 := 7) (c2 := 192) (as := [(0, 6)]) (asC := [(0, 6)]) (LN := [(0, (4, 0)), (1, (0, x1)), (2, (0, 6)), (3, (0, 1))]) (stN := [(4, 0)]) (hsC := []) (v := (1, 1000000)) (st2 := [(1, 1000000), (4, 0)]) (jA_264_1440 (d := 0)) (by rfl) (by rfl) (by decide +kernel) (by rfl) (by rfl) (by omega) (by omega) (by omega) (by omega) rfl ?_
  refine jT_xiload_n (v := (0, 1)) (pcN := 61) jI_263_60 rfl rfl rfl ?_
  refine jT_fA [0, 1, 2, 3, 4, 5, 6, 7, 8, 9, 10, 11, 12, 13, 14, 15, 16, 17, 18, 19, 20, 21] 22 (y := 265) (pcN := 64) (dC := 6) (bc1 := 7) (bc2 := 192) (c1 := 0) (c2 := 0) (as := [(4, 0), (1, 1000000), (0, 1)]) (asC := [(4, 0), (1, 1000000), (0, 1)]) (LN := [(0, (4, 0)), (1, (0, x1)), (2, (0, 6)), (3, (0, 1))]) (stN := []) (hsC := jpA_684) (ex := jpA_4354) (v := (1, 0)) (st2 := [(1, 0)]) (hs2 := jpA_4355) (jA_265_1447 (d := 0)) (by rfl) (by rfl) (by decide +kernel) (by rfl) (by rfl) (by omega) (by omega) (by omega) (by omega) rfl (by decide +kernel) ?_
  exact jT_ret rfl (by decide) (by show 22 ≤ 29; decide) (by omega) (by omega) ⟨rfl, rfl, rfl⟩
theorem jA_45_1449 {xs : List Int} {d : Nat} : jT xs (d + 1) 45 4 0 [(0, (4, 0)), (1, (4, 1)), (2, (1, 1)), (4, (1, 2400000000))] [] jpA_625 0 0 (fun k v hsN => k = 0 ∧ v = (1, 0) ∧ hsN = jpA_625 ++ []) := by
  refine jT_advK 10 (pcN := 17) (LN := [(0, (4, 0)), (1, (4, 1)), (2, (1, 1)), (4, (1, 2400000000))]) (stN := [(4, 1), (4, 0)]) (hsN := jpA_625) (c1 := 0) (s1 := 0) (c2 := 0) (s2 := 0) (by decide +kernel) ?_ (by omega) (by omega)
  refine jT_fR [0, 1] 4 (y := 39) (pcN := 20) (dC := 0) (bc1 := 0) (bc2 := 0) (c1 := 0) (c2 := 0) (as := [(4, 0), (4, 1)]) (asC := [(4, 0), (4, 1)]) (LN := [(0, (4, 0)), (1, (4, 1)), (2, (1, 1)), (4, (1, 2400000000))]) (stN := []) (hsC := [jgh, (101, [], [0, 0, 0, 0, 0, 0])]) (v := (1, 0)) (st2 := [(1, 0)]) (jA_39_144 (d := 0)) (by rfl) (by rfl) (by decide +kernel) (by rfl) (by rfl) (by omega) (by omega) (by omega) (by omega) rfl ?_
  refine jT_advK 11 (pcN := 36) (LN := [(6, (1, 0)), (0, (4, 0)), (1, (4, 1)), (2, (1, 1)), (4, (1, 2400000000))]) (stN := [(1, 1), (1, 0)]) (hsN := jpA_625) (c1 := 0) (s1 := 0) (c2 := 0) (s2 := 0) (by decide +kernel) ?_ (by omega) (by omega)
  refine jT_fR [] 4 (y := 373) (pcN := 39) (dC := 0) (bc1 := 0) (bc2 := 0) (c1 := 0) (c2 := 0) (as := [(1, 0), (1, 1)]) (asC := [(1, 0), (1, 1)]) (LN := [(6, (1, 0)), (0, (4, 0)), (1, (4, 1)), (2, (1, 1)), (4, (1, 2400000000))]) (stN := []) (hsC := []) (v := (1, 0)) (st2 := [(1, 0)]) (jA_373_145 (d := 0)) (by rfl) (by rfl) (by decide +kernel) (by rfl) (by rfl) (by omega) (by omega) (by omega) (by omega) rfl ?_
  exact jT_ret rfl (by decide) (by show 4 ≤ 4; decide) (by omega) (by omega) ⟨rfl, rfl, rfl⟩
theorem jA_44_1450 {xs : List Int} {d : Nat} : jT xs (d + 2) 44 5 0 [(0, (4, 0)), (1, (4, 1)), (2, (1, 2400000000))] [] jpA_626 0 0 (fun k v hsN => k = 0 ∧ v = (1, 0) ∧ hsN = jpA_626 ++ []) := by
  refine jT_advK 6 (pcN := 10) (LN := [(0, (4, 0)), (1, (4, 1)), (2, (1, 2400000000))]) (stN := [(1, 2400000000), (1, 1), (4, 4), (4, 0)]) (hsN := jpA_626) (c1 := 0) (s1 := 0) (c2 := 0) (s2 := 0) (by decide +kernel) ?_ (by omega) (by omega)
  refine jT_fR [0, 4, 2, 3] 5 (y := 45) (pcN := 13) (dC := 1) (bc1 := 0) (bc2 := 0) (c1 := 0) (c2 := 0) (as := [(4, 0), (4, 4), (1, 1), (1, 2400000000)]) (asC := [(4, 0), (4, 1), (1, 1), (1, 2400000000)]) (LN := [(0, (4, 0)), (1, (4, 1)), (2, (1, 2400000000))]) (stN := []) (hsC := jpA_625) (v := (1, 0)) (st2 := [(1, 0)]) (jA_45_1449 (d := 0)) (by rfl) (by rfl) (by decide +kernel) (by rfl) (by rfl) (by omega) (by omega) (by omega) (by omega) rfl ?_
  exact jT_ret rfl (by decide) (by show 5 ≤ 5; decide) (by omega) (by omega) ⟨rfl, rfl, rfl⟩
theorem jA_43_1451 {xs : List Int} {d : Nat} : jT xs (d + 3) 43 5 0 [(0, (4, 0)), (1, (4, 1)), (2, (1, 1200000000))] [] jpA_626 0 0 (fun k v hsN => k = 0 ∧ v = (1, 0) ∧ hsN = jpA_626 ++ []) := by
  refine jT_advK 5 (pcN := 7) (LN := [(0, (4, 0)), (1, (4, 1)), (2, (1, 1200000000))]) (stN := [(1, 2400000000), (4, 1), (4, 0)]) (hsN := jpA_626) (c1 := 0) (s1 := 0) (c2 := 0) (s2 := 0) (by decide +kernel) ?_ (by omega) (by omega)
  refine jT_fR [0, 1, 2, 3, 4] 5 (y := 44) (pcN := 10) (dC := 2) (bc1 := 0) (bc2 := 0) (c1 := 0) (c2 := 0) (as := [(4, 0), (4, 1), (1, 2400000000)]) (asC := [(4, 0), (4, 1), (1, 2400000000)]) (LN := [(0, (4, 0)), (1, (4, 1)), (2, (1, 1200000000))]) (stN := []) (hsC := jpA_626) (v := (1, 0)) (st2 := [(1, 0)]) (jA_44_1450 (d := 0)) (by rfl) (by rfl) (by decide +kernel) (by rfl) (by rfl) (by omega) (by omega) (by omega) (by omega) rfl ?_
  refine jT_advK 3 (pcN := 13) (LN := [(0, (4, 0)), (1, (4, 1)), (2, (1, 1200000000))]) (stN := [(0, 2), (1, 1)]) (hsN := jpA_626) (c1 := 0) (s1 := 0) (c2 := 0) (s2 := 0) (by decide +kernel) ?_ (by omega) (by omega)
  refine jT_fR [] 5 (y := 374) (pcN := 16) (dC := 1) (bc1 := 0) (bc2 := 0) (c1 := 0) (c2 := 0) (as := [(1, 1), (0, 2)]) (asC := [(1, 1), (0, 2)]) (LN := [(0, (4, 0)), (1, (4, 1)), (2, (1, 1200000000))]) (stN := []) (hsC := []) (v := (1, 0)) (st2 := [(1, 0)]) (jA_374_178 (d := 0)) (by rfl) (by rfl) (by decide +kernel) (by rfl) (by rfl) (by omega) (by omega) (by omega) (by omega) rfl ?_
  exact jT_ret rfl (by decide) (by show 5 ≤ 5; decide) (by omega) (by omega) ⟨rfl, rfl, rfl⟩
theorem jA_108_1452 {xs : List Int} {d : Nat} : jT xs (d + 4) 108 16 0 [(0, (4, 0)), (1, (4, 1)), (2, (0, 6)), (3, (0, 2))] [] jpA_4325 0 0 (fun k v hsN => k = 0 ∧ v = (1, 0) ∧ hsN = jpA_4325 ++ []) := by
  refine jT_advK 68 (pcN := 40) (LN := [(6, (0, 6)), (4, (1, 1200000000)), (0, (4, 0)), (1, (4, 1)), (2, (0, 6)), (3, (0, 2))]) (stN := [(1, 1200000000), (4, 1), (4, 2)]) (hsN := jpA_4325) (c1 := 0) (s1 := 0) (c2 := 0) (s2 := 0) (by decide +kernel) ?_ (by omega) (by omega)
  refine jT_fR [2, 1, 14, 15, 13] 16 (y := 43) (pcN := 43) (dC := 3) (bc1 := 0) (bc2 := 0) (c1 := 0) (c2 := 0) (as := [(4, 2), (4, 1), (1, 1200000000)]) (asC := [(4, 0), (4, 1), (1, 1200000000)]) (LN := [(6, (0, 6)), (4, (1, 1200000000)), (0, (4, 0)), (1, (4, 1)), (2, (0, 6)), (3, (0, 2))]) (stN := []) (hsC := jpA_626) (v := (1, 0)) (st2 := [(1, 0)]) (jA_43_1451 (d := 0)) (by rfl) (by rfl) (by decide +kernel) (by rfl) (by rfl) (by omega) (by omega) (by omega) (by omega) rfl ?_
  exact jT_ret rfl (by decide) (by show 16 ≤ 16; decide) (by omega) (by omega) ⟨rfl, rfl, rfl⟩
theorem jA_140_1453 {xs : List Int} {d : Nat} {x1 : Int} (h_x1 : 0 ≤ x1 ∧ x1 ≤ 7) : jT xs (d + 5) 140 21 0 [(0, (4, 0)), (1, (0, x1)), (2, (0, 6)), (3, (0, 2))] [] jpA_3958 0 0 (fun k v hsN => k = 0 ∧ v = (1, 0) ∧ hsN = jpA_3958 ++ []) := by
  refine jT_xaload_n (v := (4, 0)) (pcN := 1) jI_140_0 rfl rfl rfl ?_
  refine jT_xiload_n (v := (0, x1)) (pcN := 2) jI_140_1 rfl rfl rfl ?_
  refine jT_xbipush (k := 8) (pcN := 4) jI_140_2 (by decide) rfl ?_
  refine jT_fR [0] 21 (y := 115) (pcN := 7) (dC := 0) (bc1 := 0) (bc2 := 0) (c1 := 0) (c2 := 0) (as := [(4, 0), (0, x1), (0, 8)]) (asC := [(4, 0), (0, x1), (0, 8)]) (LN := [(0, (4, 0)), (1, (0, x1)), (2, (0, 6)), (3, (0, 2))]) (stN := []) (hsC := [jgh]) (v := (9, 0)) (st2 := []) (jA_115_9 (d := 0) (by omega)) (by rfl) (by rfl) (by decide +kernel) (by rfl) (by rfl) (by omega) (by omega) (by omega) (by omega) rfl ?_
  refine jT_xaload_n (v := (4, 0)) (pcN := 8) jI_140_7 rfl rfl rfl ?_
  refine jT_xiload_n (v := (0, 6)) (pcN := 9) jI_140_8 rfl rfl rfl ?_
  refine jT_xiconst (k := 0) (pcN := 10) jI_140_9 rfl ?_
  refine jT_xbipush (k := 9) (pcN := 12) jI_140_10 (by decide) rfl ?_
  refine jT_fR [0] 21 (y := 116) (pcN := 15) (dC := 0) (bc1 := 0) (bc2 := 0) (c1 := 0) (c2 := 0) (as := [(4, 0), (0, 6), (0, 0), (0, 9)]) (asC := [(4, 0), (0, 6), (0, 0), (0, 9)]) (LN := [(0, (4, 0)), (1, (0, x1)), (2, (0, 6)), (3, (0, 2))]) (stN := []) (hsC := [jgh]) (v := (9, 0)) (st2 := []) (jA_116_1433 (d := 0)) (by rfl) (by rfl) (by decide +kernel) (by rfl) (by rfl) (by omega) (by omega) (by omega) (by omega) rfl ?_
  refine jT_xaload_n (v := (4, 0)) (pcN := 16) jI_140_15 rfl rfl rfl ?_
  refine jT_xiload_n (v := (0, 2)) (pcN := 17) jI_140_16 rfl rfl rfl ?_
  refine jT_xiconst (k := 0) (pcN := 18) jI_140_17 rfl ?_
  refine jT_xiconst (k := 2) (pcN := 19) jI_140_18 rfl ?_
  refine jT_fR [0] 21 (y := 116) (pcN := 22) (dC := 0) (bc1 := 0) (bc2 := 0) (c1 := 0) (c2 := 0) (as := [(4, 0), (0, 2), (0, 0), (0, 2)]) (asC := [(4, 0), (0, 2), (0, 0), (0, 2)]) (LN := [(0, (4, 0)), (1, (0, x1)), (2, (0, 6)), (3, (0, 2))]) (stN := []) (hsC := [jgh]) (v := (9, 0)) (st2 := []) (jA_116_1301 (d := 0)) (by rfl) (by rfl) (by decide +kernel) (by rfl) (by rfl) (by omega) (by omega) (by omega) (by omega) rfl ?_
  refine jT_xaload_n (v := (4, 0)) (pcN := 23) jI_140_22 rfl rfl rfl ?_
  refine jT_xaload_n (v := (4, 0)) (pcN := 24) jI_140_23 rfl rfl rfl ?_
  refine jT_xgetf (a := 0) (t := 1) (ci := 13) (fi := 11) (c := jzA_5) (v := (4, 11)) (pcN := 27) jI_140_24 rfl rfl rfl rfl rfl rfl rfl ?_
  refine jT_xiload_n (v := (0, x1)) (pcN := 28) jI_140_27 rfl rfl rfl ?_
  refine jT_fR [11, 14, 15, 16, 17, 18, 19] 21 (y := 57) (pcN := 31) (dC := 0) (bc1 := 0) (bc2 := 0) (c1 := 0) (c2 := 0) (as := [(4, 11), (0, x1)]) (asC := [(4, 0), (0, x1)]) (LN := [(0, (4, 0)), (1, (0, x1)), (2, (0, 6)), (3, (0, 2))]) (stN := [(4, 0)]) (hsC := jpA_47) (v := (4, 6)) (st2 := [(4, 19), (4, 0)]) (jA_57_108 (d := 0) (by omega)) (by rfl) (by rfl) (by decide +kernel) (by rfl) (by rfl) (by omega) (by omega) (by omega) (by omega) rfl ?_
  refine jT_xiload_n (v := (0, 6)) (pcN := 32) jI_140_31 rfl rfl rfl ?_
  refine jT_xiload_n (v := (0, 2)) (pcN := 33) jI_140_32 rfl rfl rfl ?_
  refine jT_fR [0, 19, 1, 2, 3, 4, 5, 6, 7, 8, 9, 10, 11, 20, 12, 13] 21 (y := 108) (pcN := 36) (dC := 4) (bc1 := 0) (bc2 := 0) (c1 := 0) (c2 := 0) (as := [(4, 0), (4, 19), (0, 6), (0, 2)]) (asC := [(4, 0), (4, 1), (0, 6), (0, 2)]) (LN := [(0, (4, 0)), (1, (0, x1)), (2, (0, 6)), (3, (0, 2))]) (stN := []) (hsC := jpA_4325) (v := (1, 0)) (st2 := [(1, 0)]) (jA_108_1452 (d := 0)) (by rfl) (by rfl) (by decide +kernel) (by rfl) (by rfl) (by omega) (by omega) (by omega) (by omega) rfl ?_
  exact jT_ret rfl (by decide) (by show 21 ≤ 21; decide) (by omega) (by omega) ⟨rfl, rfl, rfl⟩
theorem jA_347_1454 {xs : List Int} {d : Nat} {x1 : Int} (h_x1 : 0 ≤ x1 ∧ x1 ≤ 7) : jT xs (d + 6) 347 22 0 [(0, (4, 0)), (1, (0, x1)), (2, (0, 6)), (3, (0, 2)), (4, (4, 1))] [] jpA_4038 0 0 (fun k v hsN => k = 0 ∧ v = (0, 0) ∧ hsN = jpA_4038 ++ []) := by
  refine jT_xaload (v := (4, 1)) (pcN := 2) jI_347_0 rfl rfl rfl ?_
  refine jT_xiconst (k := 0) (pcN := 3) jI_347_2 rfl ?_
  refine jT_xaload_n (v := (4, 0)) (pcN := 4) jI_347_3 rfl rfl rfl ?_
  refine jT_xiload_n (v := (0, x1)) (pcN := 5) jI_347_4 rfl rfl rfl ?_
  refine jT_xiload_n (v := (0, 6)) (pcN := 6) jI_347_5 rfl rfl rfl ?_
  refine jT_xiload_n (v := (0, 2)) (pcN := 7) jI_347_6 rfl rfl rfl ?_
  refine jT_fR [0, 2, 3, 4, 5, 6, 7, 8, 9, 10, 11, 12, 13, 14, 15, 16, 17, 18, 19, 20, 21] 22 (y := 140) (pcN := 10) (dC := 5) (bc1 := 0) (bc2 := 0) (c1 := 0) (c2 := 0) (as := [(4, 0), (0, x1), (0, 6), (0, 2)]) (asC := [(4, 0), (0, x1), (0, 6), (0, 2)]) (LN := [(0, (4, 0)), (1, (0, x1)), (2, (0, 6)), (3, (0, 2)), (4, (4, 1))]) (stN := [(0, 0), (4, 1)]) (hsC := jpA_3958) (v := (1, 0)) (st2 := [(1, 0), (0, 0), (4, 1)]) (jA_140_1453 (d := 0) (by omega)) (by rfl) (by rfl) (by decide +kernel) (by rfl) (by rfl) (by omega) (by omega) (by omega) (by omega) rfl ?_
  refine jT_adv 1 (pcN := 11) (LN := [(0, (4, 0)), (1, (0, x1)), (2, (0, 6)), (3, (0, 2)), (4, (4, 1))]) (stN := []) (hsN := jpA_4038) (c1 := 0) (s1 := 0) (c2 := 0) (s2 := 0) (by exact rfl) ?_ (by omega) (by omega)
  refine jT_xgoto (pcN := 22) jI_347_11 rfl ?_
  refine jT_xiconst (k := 0) (pcN := 23) jI_347_22 rfl ?_
  exact jT_ret rfl (by decide) (by show 22 ≤ 22; decide) (by omega) (by omega) ⟨rfl, rfl, rfl⟩
theorem jA_265_1455 {xs : List Int} {d : Nat} : jT xs (d + 7) 265 22 0 [(0, (4, 0)), (1, (1, 1000000)), (3, (0, 2))] [] jpA_684 10 360 (fun k v hsN => k = 0 ∧ v = (1, 0) ∧ hsN = jpA_684 ++ jpA_3654) := by
  refine jT_advK 4 (pcN := 6) (LN := [(0, (4, 0)), (1, (1, 1000000)), (3, (0, 2))]) (stN := [(1, 1200000000), (4, 0)]) (hsN := jpA_684) (c1 := 0) (s1 := 0) (c2 := 10) (s2 := 360) (by decide +kernel) ?_ (by omega) (by omega)
  refine jT_fA [0, 1, 2, 3, 4, 5, 6, 7, 8, 9, 10, 11, 12, 13, 14, 15] 22 (y := 218) (pcN := 9) (dC := 0) (bc1 := 1) (bc2 := 6) (c1 := 9) (c2 := 354) (as := [(4, 0), (1, 1200000000)]) (asC := [(4, 0), (1, 1200000000)]) (LN := [(0, (4, 0)), (1, (1, 1000000)), (3, (0, 2))]) (stN := []) (hsC := jpA_147) (ex := [(101, [], [0, 0, 0, 0, 0, 0])]) (v := (4, 16)) (st2 := [(4, 22)]) (hs2 := jpA_3652) (jA_218_1441 (d := 0)) (by rfl) (by rfl) (by decide +kernel) (by rfl) (by rfl) (by omega) (by omega) (by omega) (by omega) rfl (by decide +kernel) ?_
  refine jT_advK 8 (pcN := 23) (LN := [(4, (4, 22)), (0, (4, 0)), (1, (1, 1000000)), (3, (0, 2))]) (stN := [(1, 1), (4, 22), (4, 0)]) (hsN := jpA_3652) (c1 := 0) (s1 := 0) (c2 := 9) (s2 := 354) (by decide +kernel) ?_ (by omega) (by omega)
  refine jT_fA [0, 22, 1, 2, 3, 4, 5, 6, 7, 8, 9, 10, 11, 12, 13, 14, 15, 16, 17, 18, 19, 20, 21] 23 (y := 216) (pcN := 26) (dC := 6) (bc1 := 9) (bc2 := 354) (c1 := 0) (c2 := 0) (as := [(4, 0), (4, 22), (1, 1)]) (asC := [(4, 0), (4, 1), (1, 1)]) (LN := [(4, (4, 22)), (0, (4, 0)), (1, (1, 1000000)), (3, (0, 2))]) (stN := []) (hsC := jpA_987) (ex := jpA_839) (v := (1, 0)) (st2 := [(1, 0)]) (hs2 := jpA_3653) (jA_216_228 (d := 0)) (by rfl) (by rfl) (by decide +kernel) (by rfl) (by rfl) (by omega) (by omega) (by omega) (by omega) rfl (by decide +kernel) ?_
  exact jT_ret rfl (by decide) (by show 22 ≤ 32; decide) (by omega) (by omega) ⟨rfl, rfl, rfl⟩
theorem jA_263_1456 {xs : List Int} {d : Nat} {x1 : Int} (h_x1 : 0 ≤ x1 ∧ x1 ≤ 7) : jT xs (d + 8) 263 22 0 [(0, (4, 0)), (1, (0, x1)), (2, (0, 6)), (3, (0, 2))] [] jpA_1695 10 360 (fun k v hsN => k = 0 ∧ v = (1, 0) ∧ hsN = jpA_1695 ++ jpA_3654) := by
  refine jT_xaload_n (v := (4, 0)) (pcN := 1) jI_263_0 rfl rfl rfl ?_
  refine jT_xiload_n (v := (0, x1)) (pcN := 2) jI_263_1 rfl rfl rfl ?_
  refine jT_fR [] 22 (y := 188) (pcN := 5) (dC := 1) (bc1 := 0) (bc2 := 0) (c1 := 10) (c2 := 360) (as := [(0, x1)]) (asC := [(0, x1)]) (LN := [(0, (4, 0)), (1, (0, x1)), (2, (0, 6)), (3, (0, 2))]) (stN := [(4, 0)]) (hsC := []) (v := (0, 1)) (st2 := [(0, 1), (4, 0)]) (jA_188_13 (d := 0) (by omega)) (by rfl) (by rfl) (by decide +kernel) (by rfl) (by rfl) (by omega) (by omega) (by omega) (by omega) rfl ?_
  refine jT_fR [0, 1, 2, 3, 4, 5, 6, 7, 8, 9, 10, 11, 12, 13, 14, 15] 22 (y := 190) (pcN := 8) (dC := 1) (bc1 := 0) (bc2 := 0) (c1 := 10) (c2 := 360) (as := [(4, 0), (0, 1)]) (asC := [(4, 0), (0, 1)]) (LN := [(0, (4, 0)), (1, (0, x1)), (2, (0, 6)), (3, (0, 2))]) (stN := []) (hsC := jpA_22) (v := (0, 0)) (st2 := [(0, 0)]) (jA_190_39 (d := 0)) (by rfl) (by rfl) (by decide +kernel) (by rfl) (by rfl) (by omega) (by omega) (by omega) (by omega) rfl ?_
  refine jT_xifF (t := 48) (pcN := 11) jI_263_8 rfl (by decide +kernel) rfl rfl ?_
  refine jT_xaload_n (v := (4, 0)) (pcN := 12) jI_263_11 rfl rfl rfl ?_
  refine jT_xiload_n (v := (0, 6)) (pcN := 13) jI_263_12 rfl rfl rfl ?_
  refine jT_xi2l (x := 6) (z := 6) (pcN := 14) jI_263_13 rfl (by decide +kernel) rfl ?_
  refine jT_xlconst (z := 0) (pcN := 15) jI_263_14 rfl rfl ?_
  refine jT_adv 1 (pcN := 18) (LN := [(0, (4, 0)), (1, (0, x1)), (2, (0, 6)), (3, (0, 2))]) (stN := [(1, 9), (1, 0), (1, 6), (4, 0)]) (hsN := jpA_1695) (c1 := 0) (s1 := 0) (c2 := 10) (s2 := 360) (by exact rfl) ?_ (by omega) (by omega)
  refine jT_fR [] 22 (y := 189) (pcN := 21) (dC := 0) (bc1 := 0) (bc2 := 0) (c1 := 10) (c2 := 360) (as := [(1, 6), (1, 0), (1, 9)]) (asC := [(1, 6), (1, 0), (1, 9)]) (LN := [(0, (4, 0)), (1, (0, x1)), (2, (0, 6)), (3, (0, 2))]) (stN := [(4, 0)]) (hsC := []) (v := (0, 1)) (st2 := [(0, 1), (4, 0)]) (jA_189_1439 (d := 0)) (by rfl) (by rfl) (by decide +kernel) (by rfl) (by rfl) (by omega) (by omega) (by omega) (by omega) rfl ?_
  refine jT_xifF (t := 40) (pcN := 24) jI_263_21 rfl (by decide +kernel) rfl rfl ?_
  refine jT_xiload_n (v := (0, 2)) (pcN := 25) jI_263_24 rfl rfl rfl ?_
  refine jT_xi2l (x := 2) (z := 2) (pcN := 26) jI_263_25 rfl (by decide +kernel) rfl ?_
  refine jT_xlconst (z := 0) (pcN := 27) jI_263_26 rfl rfl ?_
  refine jT_adv 1 (pcN := 30) (LN := [(0, (4, 0)), (1, (0, x1)), (2, (0, 6)), (3, (0, 2))]) (stN := [(1, 2), (1, 0), (1, 2), (4, 0)]) (hsN := jpA_1695) (c1 := 0) (s1 := 0) (c2 := 10) (s2 := 360) (by exact rfl) ?_ (by omega) (by omega)
  refine jT_fR [] 22 (y := 189) (pcN := 33) (dC := 0) (bc1 := 0) (bc2 := 0) (c1 := 10) (c2 := 360) (as := [(1, 2), (1, 0), (1, 2)]) (asC := [(1, 2), (1, 0), (1, 2)]) (LN := [(0, (4, 0)), (1, (0, x1)), (2, (0, 6)), (3, (0, 2))]) (stN := [(4, 0)]) (hsC := []) (v := (0, 1)) (st2 := [(0, 1), (4, 0)]) (jA_189_1305 (d := 0)) (by rfl) (by rfl) (by decide +kernel) (by rfl) (by rfl) (by omega) (by omega) (by omega) (by omega) rfl ?_
  refine jT_xifF (t := 40) (pcN := 36) jI_263_33 rfl (by decide +kernel) rfl rfl ?_
  refine jT_xiconst (k := 1) (pcN := 37) jI_263_36 rfl ?_
  refine jT_xgoto (pcN := 41) jI_263_37 rfl ?_
  refine jT_xiconst (k := 2) (pcN := 42) jI_263_41 rfl ?_
  refine jT_fR [0] 22 (y := 191) (pcN := 45) (dC := 0) (bc1 := 0) (bc2 := 0) (c1 := 10) (c2 := 360) (as := [(4, 0), (0, 1), (0, 2)]) (asC := [(4, 0), (0, 1), (0, 2)]) (LN := [(0, (4, 0)), (1, (0, x1)), (2, (0, 6)), (3, (0, 2))]) (stN := []) (hsC := [jgh]) (v := (0, 0)) (st2 := [(0, 0)]) (jA_191_49 (d := 0)) (by rfl) (by rfl) (by decide +kernel) (by rfl) (by rfl) (by omega) (by omega) (by omega) (by omega) rfl ?_
  refine jT_xifT (pcN := 50) jI_263_45 rfl (by decide +kernel) rfl ?_
  refine jT_xaload_n (v := (4, 0)) (pcN := 51) jI_263_50 rfl rfl rfl ?_
  refine jT_xiload_n (v := (0, x1)) (pcN := 52) jI_263_51 rfl rfl rfl ?_
  refine jT_fR [0, 1, 2, 3, 4, 5, 6, 7, 8, 9, 10, 11, 12, 13, 14, 15] 22 (y := 202) (pcN := 55) (dC := 1) (bc1 := 0) (bc2 := 0) (c1 := 10) (c2 := 360) (as := [(4, 0), (0, x1)]) (asC := [(4, 0), (0, x1)]) (LN := [(0, (4, 0)), (1, (0, x1)), (2, (0, 6)), (3, (0, 2))]) (stN := []) (hsC := jpA_130) (v := (9, 0)) (st2 := []) (jA_202_115 (d := 0) (by omega)) (by rfl) (by rfl) (by decide +kernel) (by rfl) (by rfl) (by omega) (by omega) (by omega) (by omega) rfl ?_
  refine jT_xaload_n (v := (4, 0)) (pcN := 56) jI_263_55 rfl rfl rfl ?_
  refine jT_xiload_n (v := (0, 6)) (pcN := 57) jI_263_56 rfl rfl rfl ?_
  refine jT_fR [] 22 (y := 264) (pcN := 60) (dC := 0) (bc1 := 0) (bc2 := 0) (c1 := 10) (c2 := 360) (as := [(0, 6)]) (asC := [(0, 6)]) (LN := [(0, (4, 0)), (1, (0, x1)), (2, (0, 6)), (3, (0, 2))]) (stN := [(4, 0)]) (hsC := []) (v := (1, 1000000)) (st2 := [(1, 1000000), (4, 0)]) (jA_264_1440 (d := 0)) (by rfl) (by rfl) (by decide +kernel) (by rfl) (by rfl) (by omega) (by omega) (by omega) (by omega) rfl ?_
  refine jT_xiload_n (v := (0, 2)) (pcN := 61) jI_263_60 rfl rfl rfl ?_
  refine jT_fA [0, 1, 2, 3, 4, 5, 6, 7, 8, 9, 10, 11, 12, 13, 14, 15, 16, 17, 18, 19, 20, 21] 22 (y := 265) (pcN := 64) (dC := 7) (bc1 := 10) (bc2 := 360) (c1 := 0) (c2 := 0) (as := [(4, 0), (1, 1000000), (0, 2)]) (asC := [(4, 0), (1, 1000000), (0, 2)]) (LN := [(0, (4, 0)), (1, (0, x1)), (2, (0, 6)), (3, (0, 2))]) (stN := []) (hsC := jpA_684) (ex := jpA_3654) (v := (1, 0)) (st2 := [(1, 0)]) (hs2 := jpA_3655) (jA_265_1455 (d := 0)) (by rfl) (by rfl) (by decide +kernel) (by rfl) (by rfl) (by omega) (by omega) (by omega) (by omega) rfl (by decide +kernel) ?_
  exact jT_ret rfl (by decide) (by show 22 ≤ 32; decide) (by omega) (by omega) ⟨rfl, rfl, rfl⟩
theorem jA_116_1457 {xs : List Int} {d : Nat} {x2 : Int} (h_x2 : 7 ≤ x2 ∧ x2 ≤ 9) : jT xs d 116 1 0 [(0, (4, 0)), (1, (0, x2)), (2, (0, 0)), (3, (0, 9))] [] [jgh] 0 0 (fun k v hsN => k = 0 ∧ v = (9, 0) ∧ hsN = [jgh] ++ []) := by
  refine jT_xiload_n (v := (0, x2)) (pcN := 1) jI_116_0 rfl rfl rfl ?_
  refine jT_xiload_n (v := (0, 0)) (pcN := 2) jI_116_1 rfl rfl rfl ?_
  refine jT_icF (a := x2) (b := 0) (t := 10) (by rfl) (by rfl) (by rfl) (jw_idd (by omega) (by omega)) (jw_idd (by omega) (by omega)) (by simp only [jcP] <;> omega) ?_
  refine jT_xiload_n (v := (0, x2)) (pcN := 6) jI_116_5 rfl rfl rfl ?_
  refine jT_xiload_n (v := (0, 9)) (pcN := 7) jI_116_6 rfl rfl rfl ?_
  refine jT_icT (a := x2) (b := 9) (t := 21) (by rfl) (by rfl) (by rfl) (jw_idd (by omega) (by omega)) (jw_idd (by omega) (by omega)) (by simp only [jcP] <;> omega) ?_
  exact jT_ret rfl (by decide) (by show 1 ≤ 1; decide) (by omega) (by omega) ⟨rfl, rfl, rfl⟩
theorem jA_116_1458 {xs : List Int} {d : Nat} : jT xs d 116 1 0 [(0, (4, 0)), (1, (0, 7)), (2, (0, 0)), (3, (0, 9))] [] [jgh] 0 0 (fun k v hsN => k = 0 ∧ v = (9, 0) ∧ hsN = [jgh] ++ []) := by
  refine jT_advK 6 (pcN := 21) (LN := [(0, (4, 0)), (1, (0, 7)), (2, (0, 0)), (3, (0, 9))]) (stN := []) (hsN := [jgh]) (c1 := 0) (s1 := 0) (c2 := 0) (s2 := 0) (by decide +kernel) ?_ (by omega) (by omega)
  exact jT_ret rfl (by decide) (by show 1 ≤ 1; decide) (by omega) (by omega) ⟨rfl, rfl, rfl⟩
theorem jA_45_1459 {xs : List Int} {d : Nat} : jT xs (d + 1) 45 4 0 [(0, (4, 0)), (1, (4, 1)), (2, (1, 1)), (4, (1, 12000000000))] [] jpA_625 0 0 (fun k v hsN => k = 0 ∧ v = (1, 0) ∧ hsN = jpA_625 ++ []) := by
  refine jT_advK 10 (pcN := 17) (LN := [(0, (4, 0)), (1, (4, 1)), (2, (1, 1)), (4, (1, 12000000000))]) (stN := [(4, 1), (4, 0)]) (hsN := jpA_625) (c1 := 0) (s1 := 0) (c2 := 0) (s2 := 0) (by decide +kernel) ?_ (by omega) (by omega)
  refine jT_fR [0, 1] 4 (y := 39) (pcN := 20) (dC := 0) (bc1 := 0) (bc2 := 0) (c1 := 0) (c2 := 0) (as := [(4, 0), (4, 1)]) (asC := [(4, 0), (4, 1)]) (LN := [(0, (4, 0)), (1, (4, 1)), (2, (1, 1)), (4, (1, 12000000000))]) (stN := []) (hsC := [jgh, (101, [], [0, 0, 0, 0, 0, 0])]) (v := (1, 0)) (st2 := [(1, 0)]) (jA_39_144 (d := 0)) (by rfl) (by rfl) (by decide +kernel) (by rfl) (by rfl) (by omega) (by omega) (by omega) (by omega) rfl ?_
  refine jT_advK 11 (pcN := 36) (LN := [(6, (1, 0)), (0, (4, 0)), (1, (4, 1)), (2, (1, 1)), (4, (1, 12000000000))]) (stN := [(1, 1), (1, 0)]) (hsN := jpA_625) (c1 := 0) (s1 := 0) (c2 := 0) (s2 := 0) (by decide +kernel) ?_ (by omega) (by omega)
  refine jT_fR [] 4 (y := 373) (pcN := 39) (dC := 0) (bc1 := 0) (bc2 := 0) (c1 := 0) (c2 := 0) (as := [(1, 0), (1, 1)]) (asC := [(1, 0), (1, 1)]) (LN := [(6, (1, 0)), (0, (4, 0)), (1, (4, 1)), (2, (1, 1)), (4, (1, 12000000000))]) (stN := []) (hsC := []) (v := (1, 0)) (st2 := [(1, 0)]) (jA_373_145 (d := 0)) (by rfl) (by rfl) (by decide +kernel) (by rfl) (by rfl) (by omega) (by omega) (by omega) (by omega) rfl ?_
  exact jT_ret rfl (by decide) (by show 4 ≤ 4; decide) (by omega) (by omega) ⟨rfl, rfl, rfl⟩
theorem jA_44_1460 {xs : List Int} {d : Nat} : jT xs (d + 2) 44 5 0 [(0, (4, 0)), (1, (4, 1)), (2, (1, 12000000000))] [] jpA_626 0 0 (fun k v hsN => k = 0 ∧ v = (1, 0) ∧ hsN = jpA_626 ++ []) := by
  refine jT_advK 6 (pcN := 10) (LN := [(0, (4, 0)), (1, (4, 1)), (2, (1, 12000000000))]) (stN := [(1, 12000000000), (1, 1), (4, 4), (4, 0)]) (hsN := jpA_626) (c1 := 0) (s1 := 0) (c2 := 0) (s2 := 0) (by decide +kernel) ?_ (by omega) (by omega)
  refine jT_fR [0, 4, 2, 3] 5 (y := 45) (pcN := 13) (dC := 1) (bc1 := 0) (bc2 := 0) (c1 := 0) (c2 := 0) (as := [(4, 0), (4, 4), (1, 1), (1, 12000000000)]) (asC := [(4, 0), (4, 1), (1, 1), (1, 12000000000)]) (LN := [(0, (4, 0)), (1, (4, 1)), (2, (1, 12000000000))]) (stN := []) (hsC := jpA_625) (v := (1, 0)) (st2 := [(1, 0)]) (jA_45_1459 (d := 0)) (by rfl) (by rfl) (by decide +kernel) (by rfl) (by rfl) (by omega) (by omega) (by omega) (by omega) rfl ?_
  exact jT_ret rfl (by decide) (by show 5 ≤ 5; decide) (by omega) (by omega) ⟨rfl, rfl, rfl⟩
theorem jA_108_1461 {xs : List Int} {d : Nat} : jT xs (d + 3) 108 16 0 [(0, (4, 0)), (1, (4, 1)), (2, (0, 7)), (3, (0, 0))] [] jpA_4325 0 0 (fun k v hsN => k = 0 ∧ v = (1, 0) ∧ hsN = jpA_4325 ++ []) := by
  refine jT_advK 79 (pcN := 55) (LN := [(6, (0, 7)), (4, (1, 12000000000)), (0, (4, 0)), (1, (4, 1)), (2, (0, 7)), (3, (0, 0))]) (stN := [(1, 12000000000), (4, 1), (4, 2)]) (hsN := jpA_4325) (c1 := 0) (s1 := 0) (c2 := 0) (s2 := 0) (by decide +kernel) ?_ (by omega) (by omega)
  refine jT_fR [2, 1, 14, 15, 13] 16 (y := 44) (pcN := 58) (dC := 2) (bc1 := 0) (bc2 := 0) (c1 := 0) (c2 := 0) (as := [(4, 2), (4, 1), (1, 12000000000)]) (asC := [(4, 0), (4, 1), (1, 12000000000)]) (LN := [(6, (0, 7)), (4, (1, 12000000000)), (0, (4, 0)), (1, (4, 1)), (2, (0, 7)), (3, (0, 0))]) (stN := []) (hsC := jpA_626) (v := (1, 0)) (st2 := [(1, 0)]) (jA_44_1460 (d := 0)) (by rfl) (by rfl) (by decide +kernel) (by rfl) (by rfl) (by omega) (by omega) (by omega) (by omega) rfl ?_
  exact jT_ret rfl (by decide) (by show 16 ≤ 16; decide) (by omega) (by omega) ⟨rfl, rfl, rfl⟩
theorem jA_140_1462 {xs : List Int} {d : Nat} {x1 : Int} (h_x1 : 0 ≤ x1 ∧ x1 ≤ 7) : jT xs (d + 4) 140 21 0 [(0, (4, 0)), (1, (0, x1)), (2, (0, 7)), (3, (0, 0))] [] jpA_3958 0 0 (fun k v hsN => k = 0 ∧ v = (1, 0) ∧ hsN = jpA_3958 ++ []) := by
  refine jT_xaload_n (v := (4, 0)) (pcN := 1) jI_140_0 rfl rfl rfl ?_
  refine jT_xiload_n (v := (0, x1)) (pcN := 2) jI_140_1 rfl rfl rfl ?_
  refine jT_xbipush (k := 8) (pcN := 4) jI_140_2 (by decide) rfl ?_
  refine jT_fR [0] 21 (y := 115) (pcN := 7) (dC := 0) (bc1 := 0) (bc2 := 0) (c1 := 0) (c2 := 0) (as := [(4, 0), (0, x1), (0, 8)]) (asC := [(4, 0), (0, x1), (0, 8)]) (LN := [(0, (4, 0)), (1, (0, x1)), (2, (0, 7)), (3, (0, 0))]) (stN := []) (hsC := [jgh]) (v := (9, 0)) (st2 := []) (jA_115_9 (d := 0) (by omega)) (by rfl) (by rfl) (by decide +kernel) (by rfl) (by rfl) (by omega) (by omega) (by omega) (by omega) rfl ?_
  refine jT_xaload_n (v := (4, 0)) (pcN := 8) jI_140_7 rfl rfl rfl ?_
  refine jT_xiload_n (v := (0, 7)) (pcN := 9) jI_140_8 rfl rfl rfl ?_
  refine jT_xiconst (k := 0) (pcN := 10) jI_140_9 rfl ?_
  refine jT_xbipush (k := 9) (pcN := 12) jI_140_10 (by decide) rfl ?_
  refine jT_fR [0] 21 (y := 116) (pcN := 15) (dC := 0) (bc1 := 0) (bc2 := 0) (c1 := 0) (c2 := 0) (as := [(4, 0), (0, 7), (0, 0), (0, 9)]) (asC := [(4, 0), (0, 7), (0, 0), (0, 9)]) (LN := [(0, (4, 0)), (1, (0, x1)), (2, (0, 7)), (3, (0, 0))]) (stN := []) (hsC := [jgh]) (v := (9, 0)) (st2 := []) (jA_116_1458 (d := 0)) (by rfl) (by rfl) (by decide +kernel) (by rfl) (by rfl) (by omega) (by omega) (by omega) (by omega) rfl ?_
  refine jT_xaload_n (v := (4, 0)) (pcN := 16) jI_140_15 rfl rfl rfl ?_
  refine jT_xiload_n (v := (0, 0)) (pcN := 17) jI_140_16 rfl rfl rfl ?_
  refine jT_xiconst (k := 0) (pcN := 18) jI_140_17 rfl ?_
  refine jT_xiconst (k := 2) (pcN := 19) jI_140_18 rfl ?_
  refine jT_fR [0] 21 (y := 116) (pcN := 22) (dC := 0) (bc1 := 0) (bc2 := 0) (c1 := 0) (c2 := 0) (as := [(4, 0), (0, 0), (0, 0), (0, 2)]) (asC := [(4, 0), (0, 0), (0, 0), (0, 2)]) (LN := [(0, (4, 0)), (1, (0, x1)), (2, (0, 7)), (3, (0, 0))]) (stN := []) (hsC := [jgh]) (v := (9, 0)) (st2 := []) (jA_116_1279 (d := 0)) (by rfl) (by rfl) (by decide +kernel) (by rfl) (by rfl) (by omega) (by omega) (by omega) (by omega) rfl ?_
  refine jT_xaload_n (v := (4, 0)) (pcN := 23) jI_140_22 rfl rfl rfl ?_
  refine jT_xaload_n (v := (4, 0)) (pcN := 24) jI_140_23 rfl rfl rfl ?_
  refine jT_xgetf (a := 0) (t := 1) (ci := 13) (fi := 11) (c := jzA_5) (v := (4, 11)) (pcN := 27) jI_140_24 rfl rfl rfl rfl rfl rfl rfl ?_
  refine jT_xiload_n (v := (0, x1)) (pcN := 28) jI_140_27 rfl rfl rfl ?_
  refine jT_fR [11, 14, 15, 16, 17, 18, 19] 21 (y := 57) (pcN := 31) (dC := 0) (bc1 := 0) (bc2 := 0) (c1 := 0) (c2 := 0) (as := [(4, 11), (0, x1)]) (asC := [(4, 0), (0, x1)]) (LN := [(0, (4, 0)), (1, (0, x1)), (2, (0, 7)), (3, (0, 0))]) (stN := [(4, 0)]) (hsC := jpA_47) (v := (4, 6)) (st2 := [(4, 19), (4, 0)]) (jA_57_108 (d := 0) (by omega)) (by rfl) (by rfl) (by decide +kernel) (by rfl) (by rfl) (by omega) (by omega) (by omega) (by omega) rfl ?_
  refine jT_xiload_n (v := (0, 7)) (pcN := 32) jI_140_31 rfl rfl rfl ?_
  refine jT_xiload_n (v := (0, 0)) (pcN := 33) jI_140_32 rfl rfl rfl ?_
  refine jT_fR [0, 19, 1, 2, 3, 4, 5, 6, 7, 8, 9, 10, 11, 20, 12, 13] 21 (y := 108) (pcN := 36) (dC := 3) (bc1 := 0) (bc2 := 0) (c1 := 0) (c2 := 0) (as := [(4, 0), (4, 19), (0, 7), (0, 0)]) (asC := [(4, 0), (4, 1), (0, 7), (0, 0)]) (LN := [(0, (4, 0)), (1, (0, x1)), (2, (0, 7)), (3, (0, 0))]) (stN := []) (hsC := jpA_4325) (v := (1, 0)) (st2 := [(1, 0)]) (jA_108_1461 (d := 0)) (by rfl) (by rfl) (by decide +kernel) (by rfl) (by rfl) (by omega) (by omega) (by omega) (by omega) rfl ?_
  exact jT_ret rfl (by decide) (by show 21 ≤ 21; decide) (by omega) (by omega) ⟨rfl, rfl, rfl⟩
theorem jA_347_1463 {xs : List Int} {d : Nat} {x1 : Int} (h_x1 : 0 ≤ x1 ∧ x1 ≤ 7) : jT xs (d + 5) 347 22 0 [(0, (4, 0)), (1, (0, x1)), (2, (0, 7)), (3, (0, 0)), (4, (4, 1))] [] jpA_4038 0 0 (fun k v hsN => k = 0 ∧ v = (0, 0) ∧ hsN = jpA_4038 ++ []) := by
  refine jT_xaload (v := (4, 1)) (pcN := 2) jI_347_0 rfl rfl rfl ?_
  refine jT_xiconst (k := 0) (pcN := 3) jI_347_2 rfl ?_
  refine jT_xaload_n (v := (4, 0)) (pcN := 4) jI_347_3 rfl rfl rfl ?_
  refine jT_xiload_n (v := (0, x1)) (pcN := 5) jI_347_4 rfl rfl rfl ?_
  refine jT_xiload_n (v := (0, 7)) (pcN := 6) jI_347_5 rfl rfl rfl ?_
  refine jT_xiload_n (v := (0, 0)) (pcN := 7) jI_347_6 rfl rfl rfl ?_
  refine jT_fR [0, 2, 3, 4, 5, 6, 7, 8, 9, 10, 11, 12, 13, 14, 15, 16, 17, 18, 19, 20, 21] 22 (y := 140) (pcN := 10) (dC := 4) (bc1 := 0) (bc2 := 0) (c1 := 0) (c2 := 0) (as := [(4, 0), (0, x1), (0, 7), (0, 0)]) (asC := [(4, 0), (0, x1), (0, 7), (0, 0)]) (LN := [(0, (4, 0)), (1, (0, x1)), (2, (0, 7)), (3, (0, 0)), (4, (4, 1))]) (stN := [(0, 0), (4, 1)]) (hsC := jpA_3958) (v := (1, 0)) (st2 := [(1, 0), (0, 0), (4, 1)]) (jA_140_1462 (d := 0) (by omega)) (by rfl) (by rfl) (by decide +kernel) (by rfl) (by rfl) (by omega) (by omega) (by omega) (by omega) rfl ?_
  refine jT_adv 1 (pcN := 11) (LN := [(0, (4, 0)), (1, (0, x1)), (2, (0, 7)), (3, (0, 0)), (4, (4, 1))]) (stN := []) (hsN := jpA_4038) (c1 := 0) (s1 := 0) (c2 := 0) (s2 := 0) (by exact rfl) ?_ (by omega) (by omega)
  refine jT_xgoto (pcN := 22) jI_347_11 rfl ?_
  refine jT_xiconst (k := 0) (pcN := 23) jI_347_22 rfl ?_
  exact jT_ret rfl (by decide) (by show 22 ≤ 22; decide) (by omega) (by omega) ⟨rfl, rfl, rfl⟩
theorem jA_189_1464 {xs : List Int} {d : Nat} : jT xs d 189 0 0 [(0, (1, 7)), (2, (1, 0)), (4, (1, 9))] [] [] 0 0 (fun k v hsN => k = 0 ∧ v = (0, 1) ∧ hsN = [] ++ []) := by
  refine jT_advK 10 (pcN := 18) (LN := [(0, (1, 7)), (2, (1, 0)), (4, (1, 9))]) (stN := [(0, 1)]) (hsN := []) (c1 := 0) (s1 := 0) (c2 := 0) (s2 := 0) (by decide +kernel) ?_ (by omega) (by omega)
  exact jT_ret rfl (by decide) (by show 0 ≤ 0; decide) (by omega) (by omega) ⟨rfl, rfl, rfl⟩
theorem jA_264_1465 {xs : List Int} {d : Nat} : jT xs d 264 0 0 [(0, (0, 7))] [] [] 0 0 (fun k v hsN => k = 0 ∧ v = (1, 10000000) ∧ hsN = [] ++ []) := by
  refine jT_advK 71 (pcN := 22) (LN := [(3, (0, 7)), (1, (1, 10000000)), (0, (0, 7))]) (stN := [(1, 10000000)]) (hsN := []) (c1 := 0) (s1 := 0) (c2 := 0) (s2 := 0) (by decide +kernel) ?_ (by omega) (by omega)
  exact jT_ret rfl (by decide) (by show 0 ≤ 0; decide) (by omega) (by omega) ⟨rfl, rfl, rfl⟩
theorem jA_218_1466 {xs : List Int} {d : Nat} : jT xs d 218 16 0 [(0, (4, 0)), (1, (1, 12000000000))] [] jpA_147 1 6 (fun k v hsN => k = 0 ∧ v = (4, 16) ∧ hsN = jpA_147 ++ [(101, [], [0, 0, 0, 0, 0, 0])]) := by
  refine jT_advK 93 (pcN := 35) (LN := [(4, (0, 6)), (3, (4, 16)), (0, (4, 0)), (1, (1, 12000000000))]) (stN := [(4, 16)]) (hsN := jpA_984) (c1 := 1) (s1 := 6) (c2 := 0) (s2 := 0) (by decide +kernel) ?_ (by omega) (by omega)
  exact jT_ret rfl (by decide) (by show 16 ≤ 17; decide) (by omega) (by omega) ⟨rfl, rfl, rfl⟩
theorem jA_265_1467 {xs : List Int} {d : Nat} : jT xs (d + 6) 265 22 0 [(0, (4, 0)), (1, (1, 10000000)), (3, (0, 0))] [] jpA_684 6 186 (fun k v hsN => k = 0 ∧ v = (1, 0) ∧ hsN = jpA_684 ++ jpA_4341) := by
  refine jT_advK 4 (pcN := 6) (LN := [(0, (4, 0)), (1, (1, 10000000)), (3, (0, 0))]) (stN := [(1, 12000000000), (4, 0)]) (hsN := jpA_684) (c1 := 0) (s1 := 0) (c2 := 6) (s2 := 186) (by decide +kernel) ?_ (by omega) (by omega)
  refine jT_fA [0, 1, 2, 3, 4, 5, 6, 7, 8, 9, 10, 11, 12, 13, 14, 15] 22 (y := 218) (pcN := 9) (dC := 0) (bc1 := 1) (bc2 := 6) (c1 := 5) (c2 := 180) (as := [(4, 0), (1, 12000000000)]) (asC := [(4, 0), (1, 12000000000)]) (LN := [(0, (4, 0)), (1, (1, 10000000)), (3, (0, 0))]) (stN := []) (hsC := jpA_147) (ex := [(101, [], [0, 0, 0, 0, 0, 0])]) (v := (4, 16)) (st2 := [(4, 22)]) (hs2 := jpA_3652) (jA_218_1466 (d := 0)) (by rfl) (by rfl) (by decide +kernel) (by rfl) (by rfl) (by omega) (by omega) (by omega) (by omega) rfl (by decide +kernel) ?_
  refine jT_advK 8 (pcN := 34) (LN := [(4, (4, 22)), (0, (4, 0)), (1, (1, 10000000)), (3, (0, 0))]) (stN := [(1, 1), (4, 22), (4, 0)]) (hsN := jpA_3652) (c1 := 0) (s1 := 0) (c2 := 5) (s2 := 180) (by decide +kernel) ?_ (by omega) (by omega)
  refine jT_fA [0, 22, 1, 2, 3, 4, 5, 6, 7, 8, 9, 10, 11, 12, 13, 14, 15, 16, 17, 18, 19, 20, 21] 23 (y := 210) (pcN := 37) (dC := 5) (bc1 := 5) (bc2 := 180) (c1 := 0) (c2 := 0) (as := [(4, 0), (4, 22), (1, 1)]) (asC := [(4, 0), (4, 1), (1, 1)]) (LN := [(4, (4, 22)), (0, (4, 0)), (1, (1, 10000000)), (3, (0, 0))]) (stN := []) (hsC := jpA_987) (ex := jpA_683) (v := (1, 0)) (st2 := [(1, 0)]) (hs2 := jpA_4340) (jA_210_1290 (d := 0)) (by rfl) (by rfl) (by decide +kernel) (by rfl) (by rfl) (by omega) (by omega) (by omega) (by omega) rfl (by decide +kernel) ?_
  refine jT_advK 5 (pcN := 68) (LN := [(5, (1, 0)), (4, (4, 22)), (0, (4, 0)), (1, (1, 10000000)), (3, (0, 0))]) (stN := [(1, 0)]) (hsN := jpA_4340) (c1 := 0) (s1 := 0) (c2 := 0) (s2 := 0) (by decide +kernel) ?_ (by omega) (by omega)
  exact jT_ret rfl (by decide) (by show 22 ≤ 28; decide) (by omega) (by omega) ⟨rfl, rfl, rfl⟩
theorem jA_263_1468 {xs : List Int} {d : Nat} {x1 : Int} (h_x1 : 0 ≤ x1 ∧ x1 ≤ 7) : jT xs (d + 7) 263 22 0 [(0, (4, 0)), (1, (0, x1)), (2, (0, 7)), (3, (0, 0))] [] jpA_1695 6 186 (fun k v hsN => k = 0 ∧ v = (1, 0) ∧ hsN = jpA_1695 ++ jpA_4341) := by
  refine jT_xaload_n (v := (4, 0)) (pcN := 1) jI_263_0 rfl rfl rfl ?_
  refine jT_xiload_n (v := (0, x1)) (pcN := 2) jI_263_1 rfl rfl rfl ?_
  refine jT_fR [] 22 (y := 188) (pcN := 5) (dC := 1) (bc1 := 0) (bc2 := 0) (c1 := 6) (c2 := 186) (as := [(0, x1)]) (asC := [(0, x1)]) (LN := [(0, (4, 0)), (1, (0, x1)), (2, (0, 7)), (3, (0, 0))]) (stN := [(4, 0)]) (hsC := []) (v := (0, 1)) (st2 := [(0, 1), (4, 0)]) (jA_188_13 (d := 0) (by omega)) (by rfl) (by rfl) (by decide +kernel) (by rfl) (by rfl) (by omega) (by omega) (by omega) (by omega) rfl ?_
  refine jT_fR [0, 1, 2, 3, 4, 5, 6, 7, 8, 9, 10, 11, 12, 13, 14, 15] 22 (y := 190) (pcN := 8) (dC := 1) (bc1 := 0) (bc2 := 0) (c1 := 6) (c2 := 186) (as := [(4, 0), (0, 1)]) (asC := [(4, 0), (0, 1)]) (LN := [(0, (4, 0)), (1, (0, x1)), (2, (0, 7)), (3, (0, 0))]) (stN := []) (hsC := jpA_22) (v := (0, 0)) (st2 := [(0, 0)]) (jA_190_39 (d := 0)) (by rfl) (by rfl) (by decide +kernel) (by rfl) (by rfl) (by omega) (by omega) (by omega) (by omega) rfl ?_
  refine jT_xifF (t := 48) (pcN := 11) jI_263_8 rfl (by decide +kernel) rfl rfl ?_
  refine jT_xaload_n (v := (4, 0)) (pcN := 12) jI_263_11 rfl rfl rfl ?_
  refine jT_xiload_n (v := (0, 7)) (pcN := 13) jI_263_12 rfl rfl rfl ?_
  refine jT_xi2l (x := 7) (z := 7) (pcN := 14) jI_263_13 rfl (by decide +kernel) rfl ?_
  refine jT_xlconst (z := 0) (pcN := 15) jI_263_14 rfl rfl ?_
  refine jT_adv 1 (pcN := 18) (LN := [(0, (4, 0)), (1, (0, x1)), (2, (0, 7)), (3, (0, 0))]) (stN := [(1, 9), (1, 0), (1, 7), (4, 0)]) (hsN := jpA_1695) (c1 := 0) (s1 := 0) (c2 := 6) (s2 := 186) (by exact rfl) ?_ (by omega) (by omega)
  refine jT_fR [] 22 (y := 189) (pcN := 21) (dC := 0) (bc1 := 0) (bc2 := 0) (c1 := 6) (c2 := 186) (as := [(1, 7), (1, 0), (1, 9)]) (asC := [(1, 7), (1, 0), (1, 9)]) (LN := [(0, (4, 0)), (1, (0, x1)), (2, (0, 7)), (3, (0, 0))]) (stN := [(4, 0)]) (hsC := []) (v := (0, 1)) (st2 := [(0, 1), (4, 0)]) (jA_189_1464 (d := 0)) (by rfl) (by rfl) (by decide +kernel) (by rfl) (by rfl) (by omega) (by omega) (by omega) (by omega) rfl ?_
  refine jT_xifF (t := 40) (pcN := 24) jI_263_21 rfl (by decide +kernel) rfl rfl ?_
  refine jT_xiload_n (v := (0, 0)) (pcN := 25) jI_263_24 rfl rfl rfl ?_
  refine jT_xi2l (x := 0) (z := 0) (pcN := 26) jI_263_25 rfl (by decide +kernel) rfl ?_
  refine jT_xlconst (z := 0) (pcN := 27) jI_263_26 rfl rfl ?_
  refine jT_adv 1 (pcN := 30) (LN := [(0, (4, 0)), (1, (0, x1)), (2, (0, 7)), (3, (0, 0))]) (stN := [(1, 2), (1, 0), (1, 0), (4, 0)]) (hsN := jpA_1695) (c1 := 0) (s1 := 0) (c2 := 6) (s2 := 186) (by exact rfl) ?_ (by omega) (by omega)
  refine jT_fR [] 22 (y := 189) (pcN := 33) (dC := 0) (bc1 := 0) (bc2 := 0) (c1 := 6) (c2 := 186) (as := [(1, 0), (1, 0), (1, 2)]) (asC := [(1, 0), (1, 0), (1, 2)]) (LN := [(0, (4, 0)), (1, (0, x1)), (2, (0, 7)), (3, (0, 0))]) (stN := [(4, 0)]) (hsC := []) (v := (0, 1)) (st2 := [(0, 1), (4, 0)]) (jA_189_1286 (d := 0)) (by rfl) (by rfl) (by decide +kernel) (by rfl) (by rfl) (by omega) (by omega) (by omega) (by omega) rfl ?_
  refine jT_xifF (t := 40) (pcN := 36) jI_263_33 rfl (by decide +kernel) rfl rfl ?_
  refine jT_xiconst (k := 1) (pcN := 37) jI_263_36 rfl ?_
  refine jT_xgoto (pcN := 41) jI_263_37 rfl ?_
  refine jT_xiconst (k := 2) (pcN := 42) jI_263_41 rfl ?_
  refine jT_fR [0] 22 (y := 191) (pcN := 45) (dC := 0) (bc1 := 0) (bc2 := 0) (c1 := 6) (c2 := 186) (as := [(4, 0), (0, 1), (0, 2)]) (asC := [(4, 0), (0, 1), (0, 2)]) (LN := [(0, (4, 0)), (1, (0, x1)), (2, (0, 7)), (3, (0, 0))]) (stN := []) (hsC := [jgh]) (v := (0, 0)) (st2 := [(0, 0)]) (jA_191_49 (d := 0)) (by rfl) (by rfl) (by decide +kernel) (by rfl) (by rfl) (by omega) (by omega) (by omega) (by omega) rfl ?_
  refine jT_xifT (pcN := 50) jI_263_45 rfl (by decide +kernel) rfl ?_
  refine jT_xaload_n (v := (4, 0)) (pcN := 51) jI_263_50 rfl rfl rfl ?_
  refine jT_xiload_n (v := (0, x1)) (pcN := 52) jI_263_51 rfl rfl rfl ?_
  refine jT_fR [0, 1, 2, 3, 4, 5, 6, 7, 8, 9, 10, 11, 12, 13, 14, 15] 22 (y := 202) (pcN := 55) (dC := 1) (bc1 := 0) (bc2 := 0) (c1 := 6) (c2 := 186) (as := [(4, 0), (0, x1)]) (asC := [(4, 0), (0, x1)]) (LN := [(0, (4, 0)), (1, (0, x1)), (2, (0, 7)), (3, (0, 0))]) (stN := []) (hsC := jpA_130) (v := (9, 0)) (st2 := []) (jA_202_115 (d := 0) (by omega)) (by rfl) (by rfl) (by decide +kernel) (by rfl) (by rfl) (by omega) (by omega) (by omega) (by omega) rfl ?_
  refine jT_xaload_n (v := (4, 0)) (pcN := 56) jI_263_55 rfl rfl rfl ?_
  refine jT_xiload_n (v := (0, 7)) (pcN := 57) jI_263_56 rfl rfl rfl ?_
  refine jT_fR [] 22 (y := 264) (pcN := 60) (dC := 0) (bc1 := 0) (bc2 := 0) (c1 := 6) (c2 := 186) (as := [(0, 7)]) (asC := [(0, 7)]) (LN := [(0, (4, 0)), (1, (0, x1)), (2, (0, 7)), (3, (0, 0))]) (stN := [(4, 0)]) (hsC := []) (v := (1, 10000000)) (st2 := [(1, 10000000), (4, 0)]) (jA_264_1465 (d := 0)) (by rfl) (by rfl) (by decide +kernel) (by rfl) (by rfl) (by omega) (by omega) (by omega) (by omega) rfl ?_
  refine jT_xiload_n (v := (0, 0)) (pcN := 61) jI_263_60 rfl rfl rfl ?_
  refine jT_fA [0, 1, 2, 3, 4, 5, 6, 7, 8, 9, 10, 11, 12, 13, 14, 15, 16, 17, 18, 19, 20, 21] 22 (y := 265) (pcN := 64) (dC := 6) (bc1 := 6) (bc2 := 186) (c1 := 0) (c2 := 0) (as := [(4, 0), (1, 10000000), (0, 0)]) (asC := [(4, 0), (1, 10000000), (0, 0)]) (LN := [(0, (4, 0)), (1, (0, x1)), (2, (0, 7)), (3, (0, 0))]) (stN := []) (hsC := jpA_684) (ex := jpA_4341) (v := (1, 0)) (st2 := [(1, 0)]) (hs2 := jpA_4349) (jA_265_1467 (d := 0)) (by rfl) (by rfl) (by decide +kernel) (by rfl) (by rfl) (by omega) (by omega) (by omega) (by omega) rfl (by decide +kernel) ?_
  exact jT_ret rfl (by decide) (by show 22 ≤ 28; decide) (by omega) (by omega) ⟨rfl, rfl, rfl⟩
theorem jA_108_1469 {xs : List Int} {d : Nat} : jT xs (d + 3) 108 16 0 [(0, (4, 0)), (1, (4, 1)), (2, (0, 7)), (3, (0, 1))] [] jpA_4325 2 8 (fun k v hsN => k = 0 ∧ v = (1, 0) ∧ hsN = jpA_4325 ++ [(101, [], [0, 0, 0, 0, 0, 0]), (4, [(4, 16), (1, 1)], [])]) := by
  refine jT_advK 81 (pcN := 69) (LN := [(6, (0, 7)), (4, (1, 12000000000)), (0, (4, 0)), (1, (4, 1)), (2, (0, 7)), (3, (0, 1))]) (stN := [(1, 0), (1, 1), (1, (-1)), (4, 1), (4, 2)]) (hsN := jpA_4325) (c1 := 0) (s1 := 0) (c2 := 2) (s2 := 8) (by decide +kernel) ?_ (by omega) (by omega)
  refine jT_fA [1, 13] 16 (y := 10) (pcN := 72) (dC := 2) (bc1 := 2) (bc2 := 8) (c1 := 0) (c2 := 0) (as := [(4, 1), (1, (-1)), (1, 1), (1, 0)]) (asC := [(4, 0), (1, (-1)), (1, 1), (1, 0)]) (LN := [(6, (0, 7)), (4, (1, 12000000000)), (0, (4, 0)), (1, (4, 1)), (2, (0, 7)), (3, (0, 1))]) (stN := [(4, 2)]) (hsC := [(4, [(4, 1), (1, 1)], []), (101, [], [0, 0, 0, 0, 0, 0])]) (ex := [(101, [], [0, 0, 0, 0, 0, 0]), (4, [(4, 2), (1, 1)], [])]) (v := (4, 3)) (st2 := [(4, 17), (4, 2)]) (hs2 := jpA_4350) (jA_10_1294 (d := 0)) (by rfl) (by rfl) (by decide +kernel) (by rfl) (by rfl) (by omega) (by omega) (by omega) (by omega) rfl (by decide +kernel) ?_
  refine jT_advK 1 (pcN := 74) (LN := [(6, (0, 7)), (4, (1, 12000000000)), (0, (4, 0)), (1, (4, 1)), (2, (0, 7)), (3, (0, 1))]) (stN := [(1, 12000000000), (4, 17), (4, 2)]) (hsN := jpA_4350) (c1 := 0) (s1 := 0) (c2 := 0) (s2 := 0) (by decide +kernel) ?_ (by omega) (by omega)
  refine jT_fR [2, 17, 14, 15, 16] 18 (y := 44) (pcN := 77) (dC := 2) (bc1 := 0) (bc2 := 0) (c1 := 0) (c2 := 0) (as := [(4, 2), (4, 17), (1, 12000000000)]) (asC := [(4, 0), (4, 1), (1, 12000000000)]) (LN := [(6, (0, 7)), (4, (1, 12000000000)), (0, (4, 0)), (1, (4, 1)), (2, (0, 7)), (3, (0, 1))]) (stN := []) (hsC := jpA_626) (v := (1, 0)) (st2 := [(1, 0)]) (jA_44_1460 (d := 0)) (by rfl) (by rfl) (by decide +kernel) (by rfl) (by rfl) (by omega) (by omega) (by omega) (by omega) rfl ?_
  refine jT_advK 1 (pcN := 78) (LN := [(6, (0, 7)), (4, (1, 12000000000)), (0, (4, 0)), (1, (4, 1)), (2, (0, 7)), (3, (0, 1))]) (stN := [(1, 0)]) (hsN := jpA_4350) (c1 := 0) (s1 := 0) (c2 := 0) (s2 := 0) (by decide +kernel) ?_ (by omega) (by omega)
  exact jT_ret rfl (by decide) (by show 16 ≤ 18; decide) (by omega) (by omega) ⟨rfl, rfl, rfl⟩
theorem jA_140_1470 {xs : List Int} {d : Nat} {x1 : Int} (h_x1 : 0 ≤ x1 ∧ x1 ≤ 7) : jT xs (d + 4) 140 21 0 [(0, (4, 0)), (1, (0, x1)), (2, (0, 7)), (3, (0, 1))] [] jpA_3958 2 8 (fun k v hsN => k = 0 ∧ v = (1, 0) ∧ hsN = jpA_3958 ++ [(101, [], [0, 0, 0, 0, 0, 0]), (4, [(4, 21), (1, 1)], [])]) := by
  refine jT_xaload_n (v := (4, 0)) (pcN := 1) jI_140_0 rfl rfl rfl ?_
  refine jT_xiload_n (v := (0, x1)) (pcN := 2) jI_140_1 rfl rfl rfl ?_
  refine jT_xbipush (k := 8) (pcN := 4) jI_140_2 (by decide) rfl ?_
  refine jT_fR [0] 21 (y := 115) (pcN := 7) (dC := 0) (bc1 := 0) (bc2 := 0) (c1 := 2) (c2 := 8) (as := [(4, 0), (0, x1), (0, 8)]) (asC := [(4, 0), (0, x1), (0, 8)]) (LN := [(0, (4, 0)), (1, (0, x1)), (2, (0, 7)), (3, (0, 1))]) (stN := []) (hsC := [jgh]) (v := (9, 0)) (st2 := []) (jA_115_9 (d := 0) (by omega)) (by rfl) (by rfl) (by decide +kernel) (by rfl) (by rfl) (by omega) (by omega) (by omega) (by omega) rfl ?_
  refine jT_xaload_n (v := (4, 0)) (pcN := 8) jI_140_7 rfl rfl rfl ?_
  refine jT_xiload_n (v := (0, 7)) (pcN := 9) jI_140_8 rfl rfl rfl ?_
  refine jT_xiconst (k := 0) (pcN := 10) jI_140_9 rfl ?_
  refine jT_xbipush (k := 9) (pcN := 12) jI_140_10 (by decide) rfl ?_
  refine jT_fR [0] 21 (y := 116) (pcN := 15) (dC := 0) (bc1 := 0) (bc2 := 0) (c1 := 2) (c2 := 8) (as := [(4, 0), (0, 7), (0, 0), (0, 9)]) (asC := [(4, 0), (0, 7), (0, 0), (0, 9)]) (LN := [(0, (4, 0)), (1, (0, x1)), (2, (0, 7)), (3, (0, 1))]) (stN := []) (hsC := [jgh]) (v := (9, 0)) (st2 := []) (jA_116_1458 (d := 0)) (by rfl) (by rfl) (by decide +kernel) (by rfl) (by rfl) (by omega) (by omega) (by omega) (by omega) rfl ?_
  refine jT_xaload_n (v := (4, 0)) (pcN := 16) jI_140_15 rfl rfl rfl ?_
  refine jT_xiload_n (v := (0, 1)) (pcN := 17) jI_140_16 rfl rfl rfl ?_
  refine jT_xiconst (k := 0) (pcN := 18) jI_140_17 rfl ?_
  refine jT_xiconst (k := 2) (pcN := 19) jI_140_18 rfl ?_
  refine jT_fR [0] 21 (y := 116) (pcN := 22) (dC := 0) (bc1 := 0) (bc2 := 0) (c1 := 2) (c2 := 8) (as := [(4, 0), (0, 1), (0, 0), (0, 2)]) (asC := [(4, 0), (0, 1), (0, 0), (0, 2)]) (LN := [(0, (4, 0)), (1, (0, x1)), (2, (0, 7)), (3, (0, 1))]) (stN := []) (hsC := [jgh]) (v := (9, 0)) (st2 := []) (jA_116_1293 (d := 0)) (by rfl) (by rfl) (by decide +kernel) (by rfl) (by rfl) (by omega) (by omega) (by omega) (by omega) rfl ?_
  refine jT_xaload_n (v := (4, 0)) (pcN := 23) jI_140_22 rfl rfl rfl ?_
  refine jT_xaload_n (v := (4, 0)) (pcN := 24) jI_140_23 rfl rfl rfl ?_
  refine jT_xgetf (a := 0) (t := 1) (ci := 13) (fi := 11) (c := jzA_5) (v := (4, 11)) (pcN := 27) jI_140_24 rfl rfl rfl rfl rfl rfl rfl ?_
  refine jT_xiload_n (v := (0, x1)) (pcN := 28) jI_140_27 rfl rfl rfl ?_
  refine jT_fR [11, 14, 15, 16, 17, 18, 19] 21 (y := 57) (pcN := 31) (dC := 0) (bc1 := 0) (bc2 := 0) (c1 := 2) (c2 := 8) (as := [(4, 11), (0, x1)]) (asC := [(4, 0), (0, x1)]) (LN := [(0, (4, 0)), (1, (0, x1)), (2, (0, 7)), (3, (0, 1))]) (stN := [(4, 0)]) (hsC := jpA_47) (v := (4, 6)) (st2 := [(4, 19), (4, 0)]) (jA_57_108 (d := 0) (by omega)) (by rfl) (by rfl) (by decide +kernel) (by rfl) (by rfl) (by omega) (by omega) (by omega) (by omega) rfl ?_
  refine jT_xiload_n (v := (0, 7)) (pcN := 32) jI_140_31 rfl rfl rfl ?_
  refine jT_xiload_n (v := (0, 1)) (pcN := 33) jI_140_32 rfl rfl rfl ?_
  refine jT_fA [0, 19, 1, 2, 3, 4, 5, 6, 7, 8, 9, 10, 11, 20, 12, 13] 21 (y := 108) (pcN := 36) (dC := 3) (bc1 := 2) (bc2 := 8) (c1 := 0) (c2 := 0) (as := [(4, 0), (4, 19), (0, 7), (0, 1)]) (asC := [(4, 0), (4, 1), (0, 7), (0, 1)]) (LN := [(0, (4, 0)), (1, (0, x1)), (2, (0, 7)), (3, (0, 1))]) (stN := []) (hsC := jpA_4325) (ex := [(101, [], [0, 0, 0, 0, 0, 0]), (4, [(4, 16), (1, 1)], [])]) (v := (1, 0)) (st2 := [(1, 0)]) (hs2 := jpA_4351) (jA_108_1469 (d := 0)) (by rfl) (by rfl) (by decide +kernel) (by rfl) (by rfl) (by omega) (by omega) (by omega) (by omega) rfl (by decide +kernel) ?_
  exact jT_ret rfl (by decide) (by show 21 ≤ 23; decide) (by omega) (by omega) ⟨rfl, rfl, rfl⟩
theorem jA_347_1471 {xs : List Int} {d : Nat} {x1 : Int} (h_x1 : 0 ≤ x1 ∧ x1 ≤ 7) : jT xs (d + 5) 347 22 0 [(0, (4, 0)), (1, (0, x1)), (2, (0, 7)), (3, (0, 1)), (4, (4, 1))] [] jpA_4038 2 8 (fun k v hsN => k = 0 ∧ v = (0, 0) ∧ hsN = jpA_4038 ++ [(101, [], [0, 0, 0, 0, 0, 0]), (4, [(4, 22), (1, 1)], [])]) := by
  refine jT_xaload (v := (4, 1)) (pcN := 2) jI_347_0 rfl rfl rfl ?_
  refine jT_xiconst (k := 0) (pcN := 3) jI_347_2 rfl ?_
  refine jT_xaload_n (v := (4, 0)) (pcN := 4) jI_347_3 rfl rfl rfl ?_
  refine jT_xiload_n (v := (0, x1)) (pcN := 5) jI_347_4 rfl rfl rfl ?_
  refine jT_xiload_n (v := (0, 7)) (pcN := 6) jI_347_5 rfl rfl rfl ?_
  refine jT_xiload_n (v := (0, 1)) (pcN := 7) jI_347_6 rfl rfl rfl ?_
  refine jT_fA [0, 2, 3, 4, 5, 6, 7, 8, 9, 10, 11, 12, 13, 14, 15, 16, 17, 18, 19, 20, 21] 22 (y := 140) (pcN := 10) (dC := 4) (bc1 := 2) (bc2 := 8) (c1 := 0) (c2 := 0) (as := [(4, 0), (0, x1), (0, 7), (0, 1)]) (asC := [(4, 0), (0, x1), (0, 7), (0, 1)]) (LN := [(0, (4, 0)), (1, (0, x1)), (2, (0, 7)), (3, (0, 1)), (4, (4, 1))]) (stN := [(0, 0), (4, 1)]) (hsC := jpA_3958) (ex := [(101, [], [0, 0, 0, 0, 0, 0]), (4, [(4, 21), (1, 1)], [])]) (v := (1, 0)) (st2 := [(1, 0), (0, 0), (4, 1)]) (hs2 := jpA_4352) (jA_140_1470 (d := 0) (by omega)) (by rfl) (by rfl) (by decide +kernel) (by rfl) (by rfl) (by omega) (by omega) (by omega) (by omega) rfl (by decide +kernel) ?_
  refine jT_adv 1 (pcN := 11) (LN := [(0, (4, 0)), (1, (0, x1)), (2, (0, 7)), (3, (0, 1)), (4, (4, 1))]) (stN := []) (hsN := jpA_4352) (c1 := 0) (s1 := 0) (c2 := 0) (s2 := 0) (by exact rfl) ?_ (by omega) (by omega)
  refine jT_xgoto (pcN := 22) jI_347_11 rfl ?_
  refine jT_xiconst (k := 0) (pcN := 23) jI_347_22 rfl ?_
  exact jT_ret rfl (by decide) (by show 22 ≤ 24; decide) (by omega) (by omega) ⟨rfl, rfl, rfl⟩
theorem jA_265_1472 {xs : List Int} {d : Nat} : jT xs (d + 6) 265 22 0 [(0, (4, 0)), (1, (1, 10000000)), (3, (0, 1))] [] jpA_684 7 192 (fun k v hsN => k = 0 ∧ v = (1, 0) ∧ hsN = jpA_684 ++ jpA_4354) := by
  refine jT_advK 4 (pcN := 6) (LN := [(0, (4, 0)), (1, (1, 10000000)), (3, (0, 1))]) (stN := [(1, 12000000000), (4, 0)]) (hsN := jpA_684) (c1 := 0) (s1 := 0) (c2 := 7) (s2 := 192) (by decide +kernel) ?_ (by omega) (by omega)
  refine jT_fA [0, 1, 2, 3, 4, 5, 6, 7, 8, 9, 10, 11, 12, 13, 14, 15] 22 (y := 218) (pcN := 9) (dC := 0) (bc1 := 1) (bc2 := 6) (c1 := 6) (c2 := 186) (as := [(4, 0), (1, 12000000000)]) (asC := [(4, 0), (1, 12000000000)]) (LN := [(0, (4, 0)), (1, (1, 10000000)), (3, (0, 1))]) (stN := []) (hsC := jpA_147) (ex := [(101, [], [0, 0, 0, 0, 0, 0])]) (v := (4, 16)) (st2 := [(4, 22)]) (hs2 := jpA_3652) (jA_218_1466 (d := 0)) (by rfl) (by rfl) (by decide +kernel) (by rfl) (by rfl) (by omega) (by omega) (by omega) (by omega) rfl (by decide +kernel) ?_
  refine jT_advK 8 (pcN := 34) (LN := [(4, (4, 22)), (0, (4, 0)), (1, (1, 10000000)), (3, (0, 1))]) (stN := [(1, 1), (4, 22), (4, 0)]) (hsN := jpA_3652) (c1 := 0) (s1 := 0) (c2 := 6) (s2 := 186) (by decide +kernel) ?_ (by omega) (by omega)
  refine jT_fA [0, 22, 1, 2, 3, 4, 5, 6, 7, 8, 9, 10, 11, 12, 13, 14, 15, 16, 17, 18, 19, 20, 21] 23 (y := 210) (pcN := 37) (dC := 5) (bc1 := 5) (bc2 := 180) (c1 := 1) (c2 := 6) (as := [(4, 0), (4, 22), (1, 1)]) (asC := [(4, 0), (4, 1), (1, 1)]) (LN := [(4, (4, 22)), (0, (4, 0)), (1, (1, 10000000)), (3, (0, 1))]) (stN := []) (hsC := jpA_987) (ex := jpA_683) (v := (1, 0)) (st2 := [(1, 0)]) (hs2 := jpA_4340) (jA_210_1290 (d := 0)) (by rfl) (by rfl) (by decide +kernel) (by rfl) (by rfl) (by omega) (by omega) (by omega) (by omega) rfl (by decide +kernel) ?_
  refine jT_advK 9 (pcN := 53) (LN := [(5, (1, 0)), (4, (4, 22)), (0, (4, 0)), (1, (1, 10000000)), (3, (0, 1))]) (stN := [(1, 0), (4, 22), (4, 0)]) (hsN := jpA_4340) (c1 := 0) (s1 := 0) (c2 := 1) (s2 := 6) (by decide +kernel) ?_ (by omega) (by omega)
  refine jT_fA [0, 22, 1, 2, 3, 4, 5, 6, 7, 8, 9, 10, 11, 12, 13, 14, 15] 28 (y := 212) (pcN := 56) (dC := 2) (bc1 := 1) (bc2 := 6) (c1 := 0) (c2 := 0) (as := [(4, 0), (4, 22), (1, 0)]) (asC := [(4, 0), (4, 1), (1, 0)]) (LN := [(5, (1, 0)), (4, (4, 22)), (0, (4, 0)), (1, (1, 10000000)), (3, (0, 1))]) (stN := []) (hsC := jpA_4335) (ex := [(101, [], [0, 0, 0, 0, 0, 0])]) (v := (0, 0)) (st2 := [(0, 0)]) (hs2 := jpA_4353) (jA_212_1288 (d := 0)) (by rfl) (by rfl) (by decide +kernel) (by rfl) (by rfl) (by omega) (by omega) (by omega) (by omega) rfl (by decide +kernel) ?_
  refine jT_advK 3 (pcN := 68) (LN := [(5, (1, 0)), (4, (4, 22)), (0, (4, 0)), (1, (1, 10000000)), (3, (0, 1))]) (stN := [(1, 0)]) (hsN := jpA_4353) (c1 := 0) (s1 := 0) (c2 := 0) (s2 := 0) (by decide +kernel) ?_ (by omega) (by omega)
  exact jT_ret rfl (by decide) (by show 22 ≤ 29; decide) (by omega) (by omega) ⟨rfl, rfl, rfl⟩
theorem jA_263_1473 {xs : List Int} {d : Nat} {x1 : Int} (h_x1 : 0 ≤ x1 ∧ x1 ≤ 7) : jT xs (d + 7) 263 22 0 [(0, (4, 0)), (1, (0, x1)), (2, (0, 7)), (3, (0, 1))] [] jpA_1695 7 192 (fun k v hsN => k = 0 ∧ v = (1, 0) ∧ hsN = jpA_1695 ++ jpA_4354) := by
  refine jT_xaload_n (v := (4, 0)) (pcN := 1) jI_263_0 rfl rfl rfl ?_
  refine jT_xiload_n (v := (0, x1)) (pcN := 2) jI_263_1 rfl rfl rfl ?_
  refine jT_fR [] 22 (y := 188) (pcN := 5) (dC := 1) (bc1 := 0) (bc2 := 0) (c1 := 7) (c2 := 192) (as := [(0, x1)]) (asC := [(0, x1)]) (LN := [(0, (4, 0)), (1, (0, x1)), (2, (0, 7)), (3, (0, 1))]) (stN := [(4, 0)]) (hsC := []) (v := (0, 1)) (st2 := [(0, 1), (4, 0)]) (jA_188_13 (d := 0) (by omega)) (by rfl) (by rfl) (by decide +kernel) (by rfl) (by rfl) (by omega) (by omega) (by omega) (by omega) rfl ?_
  refine jT_fR [0, 1, 2, 3, 4, 5, 6, 7, 8, 9, 10, 11, 12, 13, 14, 15] 22 (y := 190) (pcN := 8) (dC := 1) (bc1 := 0) (bc2 := 0) (c1 := 7) (c2 := 192) (as := [(4, 0), (0, 1)]) (asC := [(4, 0), (0, 1)]) (LN := [(0, (4, 0)), (1, (0, x1)), (2, (0, 7)), (3, (0, 1))]) (stN := []) (hsC := jpA_22) (v := (0, 0)) (st2 := [(0, 0)]) (jA_190_39 (d := 0)) (by rfl) (by rfl) (by decide +kernel) (by rfl) (by rfl) (by omega) (by omega) (by omega) (by omega) rfl ?_
  refine jT_xifF (t := 48) (pcN := 11) jI_263_8 rfl (by decide +kernel) rfl rfl ?_
  refine jT_xaload_n (v := (4, 0)) (pcN := 12) jI_263_11 rfl rfl rfl ?_
  refine jT_xiload_n (v := (0, 7)) (pcN := 13) jI_263_12 rfl rfl rfl ?_
  refine jT_xi2l (x := 7) (z := 7) (pcN := 14) jI_263_13 rfl (by decide +kernel) rfl ?_
  refine jT_xlconst (z := 0) (pcN := 15) jI_263_14 rfl rfl ?_
  refine jT_adv 1 (pcN := 18) (LN := [(0, (4, 0)), (1, (0, x1)), (2, (0, 7)), (3, (0, 1))]) (stN := [(1, 9), (1, 0), (1, 7), (4, 0)]) (hsN := jpA_1695) (c1 := 0) (s1 := 0) (c2 := 7) (s2 := 192) (by exact rfl) ?_ (by omega) (by omega)
  refine jT_fR [] 22 (y := 189) (pcN := 21) (dC := 0) (bc1 := 0) (bc2 := 0) (c1 := 7) (c2 := 192) (as := [(1, 7), (1, 0), (1, 9)]) (asC := [(1, 7), (1, 0), (1, 9)]) (LN := [(0, (4, 0)), (1, (0, x1)), (2, (0, 7)), (3, (0, 1))]) (stN := [(4, 0)]) (hsC := []) (v := (0, 1)) (st2 := [(0, 1), (4, 0)]) (jA_189_1464 (d := 0)) (by rfl) (by rfl) (by decide +kernel) (by rfl) (by rfl) (by omega) (by omega) (by omega) (by omega) rfl ?_
  refine jT_xifF (t := 40) (pcN := 24) jI_263_21 rfl (by decide +kernel) rfl rfl ?_
  refine jT_xiload_n (v := (0, 1)) (pcN := 25) jI_263_24 rfl rfl rfl ?_
  refine jT_xi2l (x := 1) (z := 1) (pcN := 26) jI_263_25 rfl (by decide +kernel) rfl ?_
  refine jT_xlconst (z := 0) (pcN := 27) jI_263_26 rfl rfl ?_
  refine jT_adv 1 (pcN := 30) (LN := [(0, (4, 0)), (1, (0, x1)), (2, (0, 7)), (3, (0, 1))]) (stN := [(1, 2), (1, 0), (1, 1), (4, 0)]) (hsN := jpA_1695) (c1 := 0) (s1 := 0) (c2 := 7) (s2 := 192) (by exact rfl) ?_ (by omega) (by omega)
  refine jT_fR [] 22 (y := 189) (pcN := 33) (dC := 0) (bc1 := 0) (bc2 := 0) (c1 := 7) (c2 := 192) (as := [(1, 1), (1, 0), (1, 2)]) (asC := [(1, 1), (1, 0), (1, 2)]) (LN := [(0, (4, 0)), (1, (0, x1)), (2, (0, 7)), (3, (0, 1))]) (stN := [(4, 0)]) (hsC := []) (v := (0, 1)) (st2 := [(0, 1), (4, 0)]) (jA_189_1298 (d := 0)) (by rfl) (by rfl) (by decide +kernel) (by rfl) (by rfl) (by omega) (by omega) (by omega) (by omega) rfl ?_
  refine jT_xifF (t := 40) (pcN := 36) jI_263_33 rfl (by decide +kernel) rfl rfl ?_
  refine jT_xiconst (k := 1) (pcN := 37) jI_263_36 rfl ?_
  refine jT_xgoto (pcN := 41) jI_263_37 rfl ?_
  refine jT_xiconst (k := 2) (pcN := 42) jI_263_41 rfl ?_
  refine jT_fR [0] 22 (y := 191) (pcN := 45) (dC := 0) (bc1 := 0) (bc2 := 0) (c1 := 7) (c2 := 192) (as := [(4, 0), (0, 1), (0, 2)]) (asC := [(4, 0), (0, 1), (0, 2)]) (LN := [(0, (4, 0)), (1, (0, x1)), (2, (0, 7)), (3, (0, 1))]) (stN := []) (hsC := [jgh]) (v := (0, 0)) (st2 := [(0, 0)]) (jA_191_49 (d := 0)) (by rfl) (by rfl) (by decide +kernel) (by rfl) (by rfl) (by omega) (by omega) (by omega) (by omega) rfl ?_
  refine jT_xifT (pcN := 50) jI_263_45 rfl (by decide +kernel) rfl ?_
  refine jT_xaload_n (v := (4, 0)) (pcN := 51) jI_263_50 rfl rfl rfl ?_
  refine jT_xiload_n (v := (0, x1)) (pcN := 52) jI_263_51 rfl rfl rfl ?_
  refine jT_fR [0, 1, 2, 3, 4, 5, 6, 7, 8, 9, 10, 11, 12, 13, 14, 15] 22 (y := 202) (pcN := 55) (dC := 1) (bc1 := 0) (bc2 := 0) (c1 := 7) (c2 := 192) (as := [(4, 0), (0, x1)]) (asC := [(4, 0), (0, x1)]) (LN := [(0, (4, 0)), (1, (0, x1)), (2, (0, 7)), (3, (0, 1))]) (stN := []) (hsC := jpA_130) (v := (9, 0)) (st2 := []) (jA_202_115 (d := 0) (by omega)) (by rfl) (by rfl) (by decide +kernel) (by rfl) (by rfl) (by omega) (by omega) (by omega) (by omega) rfl ?_
  refine jT_xaload_n (v := (4, 0)) (pcN := 56) jI_263_55 rfl rfl rfl ?_
  refine jT_xiload_n (v := (0, 7)) (pcN := 57) jI_263_56 rfl rfl rfl ?_
  refine jT_fR [] 22 (y := 264) (pcN := 60) (dC := 0) (bc1 := 0) (bc2 := 0) (c1 := 7) (c2 := 192) (as := [(0, 7)]) (asC := [(0, 7)]) (LN := [(0, (4, 0)), (1, (0, x1)), (2, (0, 7)), (3, (0, 1))]) (stN := [(4, 0)]) (hsC := []) (v := (1, 10000000)) (st2 := [(1, 10000000), (4, 0)]) (jA_264_1465 (d := 0)) (by rfl) (by rfl) (by decide +kernel) (by rfl) (by rfl) (by omega) (by omega) (by omega) (by omega) rfl ?_
  refine jT_xiload_n (v := (0, 1)) (pcN := 61) jI_263_60 rfl rfl rfl ?_
  refine jT_fA [0, 1, 2, 3, 4, 5, 6, 7, 8, 9, 10, 11, 12, 13, 14, 15, 16, 17, 18, 19, 20, 21] 22 (y := 265) (pcN := 64) (dC := 6) (bc1 := 7) (bc2 := 192) (c1 := 0) (c2 := 0) (as := [(4, 0), (1, 10000000), (0, 1)]) (asC := [(4, 0), (1, 10000000), (0, 1)]) (LN := [(0, (4, 0)), (1, (0, x1)), (2, (0, 7)), (3, (0, 1))]) (stN := []) (hsC := jpA_684) (ex := jpA_4354) (v := (1, 0)) (st2 := [(1, 0)]) (hs2 := jpA_4355) (jA_265_1472 (d := 0)) (by rfl) (by rfl) (by decide +kernel) (by rfl) (by rfl) (by omega) (by omega) (by omega) (by omega) rfl (by decide +kernel) ?_
  exact jT_ret rfl (by decide) (by show 22 ≤ 29; decide) (by omega) (by omega) ⟨rfl, rfl, rfl⟩
theorem jA_45_1474 {xs : List Int} {d : Nat} : jT xs (d + 1) 45 4 0 [(0, (4, 0)), (1, (4, 1)), (2, (1, 1)), (4, (1, 24000000000))] [] jpA_625 0 0 (fun k v hsN => k = 0 ∧ v = (1, 0) ∧ hsN = jpA_625 ++ []) := by
  refine jT_advK 10 (pcN := 17) (LN := [(0, (4, 0)), (1, (4, 1)), (2, (1, 1)), (4, (1, 24000000000))]) (stN := [(4, 1), (4, 0)]) (hsN := jpA_625) (c1 := 0) (s1 := 0) (c2 := 0) (s2 := 0) (by decide +kernel) ?_ (by omega) (by omega)
  refine jT_fR [0, 1] 4 (y := 39) (pcN := 20) (dC := 0) (bc1 := 0) (bc2 := 0) (c1 := 0) (c2 := 0) (as := [(4, 0), (4, 1)]) (asC := [(4, 0), (4, 1)]) (LN := [(0, (4, 0)), (1, (4, 1)), (2, (1, 1)), (4, (1, 24000000000))]) (stN := []) (hsC := [jgh, (101, [], [0, 0, 0, 0, 0, 0])]) (v := (1, 0)) (st2 := [(1, 0)]) (jA_39_144 (d := 0)) (by rfl) (by rfl) (by decide +kernel) (by rfl) (by rfl) (by omega) (by omega) (by omega) (by omega) rfl ?_
  refine jT_advK 11 (pcN := 36) (LN := [(6, (1, 0)), (0, (4, 0)), (1, (4, 1)), (2, (1, 1)), (4, (1, 24000000000))]) (stN := [(1, 1), (1, 0)]) (hsN := jpA_625) (c1 := 0) (s1 := 0) (c2 := 0) (s2 := 0) (by decide +kernel) ?_ (by omega) (by omega)
  refine jT_fR [] 4 (y := 373) (pcN := 39) (dC := 0) (bc1 := 0) (bc2 := 0) (c1 := 0) (c2 := 0) (as := [(1, 0), (1, 1)]) (asC := [(1, 0), (1, 1)]) (LN := [(6, (1, 0)), (0, (4, 0)), (1, (4, 1)), (2, (1, 1)), (4, (1, 24000000000))]) (stN := []) (hsC := []) (v := (1, 0)) (st2 := [(1, 0)]) (jA_373_145 (d := 0)) (by rfl) (by rfl) (by decide +kernel) (by rfl) (by rfl) (by omega) (by omega) (by omega) (by omega) rfl ?_
  exact jT_ret rfl (by decide) (by show 4 ≤ 4; decide) (by omega) (by omega) ⟨rfl, rfl, rfl⟩
theorem jA_44_1475 {xs : List Int} {d : Nat} : jT xs (d + 2) 44 5 0 [(0, (4, 0)), (1, (4, 1)), (2, (1, 24000000000))] [] jpA_626 0 0 (fun k v hsN => k = 0 ∧ v = (1, 0) ∧ hsN = jpA_626 ++ []) := by
  refine jT_advK 6 (pcN := 10) (LN := [(0, (4, 0)), (1, (4, 1)), (2, (1, 24000000000))]) (stN := [(1, 24000000000), (1, 1), (4, 4), (4, 0)]) (hsN := jpA_626) (c1 := 0) (s1 := 0) (c2 := 0) (s2 := 0) (by decide +kernel) ?_ (by omega) (by omega)
  refine jT_fR [0, 4, 2, 3] 5 (y := 45) (pcN := 13) (dC := 1) (bc1 := 0) (bc2 := 0) (c1 := 0) (c2 := 0) (as := [(4, 0), (4, 4), (1, 1), (1, 24000000000)]) (asC := [(4, 0), (4, 1), (1, 1), (1, 24000000000)]) (LN := [(0, (4, 0)), (1, (4, 1)), (2, (1, 24000000000))]) (stN := []) (hsC := jpA_625) (v := (1, 0)) (st2 := [(1, 0)]) (jA_45_1474 (d := 0)) (by rfl) (by rfl) (by decide +kernel) (by rfl) (by rfl) (by omega) (by omega) (by omega) (by omega) rfl ?_
  exact jT_ret rfl (by decide) (by show 5 ≤ 5; decide) (by omega) (by omega) ⟨rfl, rfl, rfl⟩
theorem jA_43_1476 {xs : List Int} {d : Nat} : jT xs (d + 3) 43 5 0 [(0, (4, 0)), (1, (4, 1)), (2, (1, 12000000000))] [] jpA_626 0 0 (fun k v hsN => k = 0 ∧ v = (1, 0) ∧ hsN = jpA_626 ++ []) := by
  refine jT_advK 5 (pcN := 7) (LN := [(0, (4, 0)), (1, (4, 1)), (2, (1, 12000000000))]) (stN := [(1, 24000000000), (4, 1), (4, 0)]) (hsN := jpA_626) (c1 := 0) (s1 := 0) (c2 := 0) (s2 := 0) (by decide +kernel) ?_ (by omega) (by omega)
  refine jT_fR [0, 1, 2, 3, 4] 5 (y := 44) (pcN := 10) (dC := 2) (bc1 := 0) (bc2 := 0) (c1 := 0) (c2 := 0) (as := [(4, 0), (4, 1), (1, 24000000000)]) (asC := [(4, 0), (4, 1), (1, 24000000000)]) (LN := [(0, (4, 0)), (1, (4, 1)), (2, (1, 12000000000))]) (stN := []) (hsC := jpA_626) (v := (1, 0)) (st2 := [(1, 0)]) (jA_44_1475 (d := 0)) (by rfl) (by rfl) (by decide +kernel) (by rfl) (by rfl) (by omega) (by omega) (by omega) (by omega) rfl ?_
  refine jT_advK 3 (pcN := 13) (LN := [(0, (4, 0)), (1, (4, 1)), (2, (1, 12000000000))]) (stN := [(0, 2), (1, 1)]) (hsN := jpA_626) (c1 := 0) (s1 := 0) (c2 := 0) (s2 := 0) (by decide +kernel) ?_ (by omega) (by omega)
  refine jT_fR [] 5 (y := 374) (pcN := 16) (dC := 1) (bc1 := 0) (bc2 := 0) (c1 := 0) (c2 := 0) (as := [(1, 1), (0, 2)]) (asC := [(1, 1), (0, 2)]) (LN := [(0, (4, 0)), (1, (4, 1)), (2, (1, 12000000000))]) (stN := []) (hsC := []) (v := (1, 0)) (st2 := [(1, 0)]) (jA_374_178 (d := 0)) (by rfl) (by rfl) (by decide +kernel) (by rfl) (by rfl) (by omega) (by omega) (by omega) (by omega) rfl ?_
  exact jT_ret rfl (by decide) (by show 5 ≤ 5; decide) (by omega) (by omega) ⟨rfl, rfl, rfl⟩
theorem jA_108_1477 {xs : List Int} {d : Nat} : jT xs (d + 4) 108 16 0 [(0, (4, 0)), (1, (4, 1)), (2, (0, 7)), (3, (0, 2))] [] jpA_4325 0 0 (fun k v hsN => k = 0 ∧ v = (1, 0) ∧ hsN = jpA_4325 ++ []) := by
  refine jT_advK 77 (pcN := 40) (LN := [(6, (0, 7)), (4, (1, 12000000000)), (0, (4, 0)), (1, (4, 1)), (2, (0, 7)), (3, (0, 2))]) (stN := [(1, 12000000000), (4, 1), (4, 2)]) (hsN := jpA_4325) (c1 := 0) (s1 := 0) (c2 := 0) (s2 := 0) (by decide +kernel) ?_ (by omega) (by omega)
  refine jT_fR [2, 1, 14, 15, 13] 16 (y := 43) (pcN := 43) (dC := 3) (bc1 := 0) (bc2 := 0) (c1 := 0) (c2 := 0) (as := [(4, 2), (4, 1), (1, 12000000000)]) (asC := [(4, 0), (4, 1), (1, 12000000000)]) (LN := [(6, (0, 7)), (4, (1, 12000000000)), (0, (4, 0)), (1, (4, 1)), (2, (0, 7)), (3, (0, 2))]) (stN := []) (hsC := jpA_626) (v := (1, 0)) (st2 := [(1, 0)]) (jA_43_1476 (d := 0)) (by rfl) (by rfl) (by decide +kernel) (by rfl) (by rfl) (by omega) (by omega) (by omega) (by omega) rfl ?_
  exact jT_ret rfl (by decide) (by show 16 ≤ 16; decide) (by omega) (by omega) ⟨rfl, rfl, rfl⟩
theorem jA_140_1478 {xs : List Int} {d : Nat} {x1 : Int} (h_x1 : 0 ≤ x1 ∧ x1 ≤ 7) : jT xs (d + 5) 140 21 0 [(0, (4, 0)), (1, (0, x1)), (2, (0, 7)), (3, (0, 2))] [] jpA_3958 0 0 (fun k v hsN => k = 0 ∧ v = (1, 0) ∧ hsN = jpA_3958 ++ []) := by
  refine jT_xaload_n (v := (4, 0)) (pcN := 1) jI_140_0 rfl rfl rfl ?_
  refine jT_xiload_n (v := (0, x1)) (pcN := 2) jI_140_1 rfl rfl rfl ?_
  refine jT_xbipush (k := 8) (pcN := 4) jI_140_2 (by decide) rfl ?_
  refine jT_fR [0] 21 (y := 115) (pcN := 7) (dC := 0) (bc1 := 0) (bc2 := 0) (c1 := 0) (c2 := 0) (as := [(4, 0), (0, x1), (0, 8)]) (asC := [(4, 0), (0, x1), (0, 8)]) (LN := [(0, (4, 0)), (1, (0, x1)), (2, (0, 7)), (3, (0, 2))]) (stN := []) (hsC := [jgh]) (v := (9, 0)) (st2 := []) (jA_115_9 (d := 0) (by omega)) (by rfl) (by rfl) (by decide +kernel) (by rfl) (by rfl) (by omega) (by omega) (by omega) (by omega) rfl ?_
  refine jT_xaload_n (v := (4, 0)) (pcN := 8) jI_140_7 rfl rfl rfl ?_
  refine jT_xiload_n (v := (0, 7)) (pcN := 9) jI_140_8 rfl rfl rfl ?_
  refine jT_xiconst (k := 0) (pcN := 10) jI_140_9 rfl ?_
  refine jT_xbipush (k := 9) (pcN := 12) jI_140_10 (by decide) rfl ?_
  refine jT_fR [0] 21 (y := 116) (pcN := 15) (dC := 0) (bc1 := 0) (bc2 := 0) (c1 := 0) (c2 := 0) (as := [(4, 0), (0, 7), (0, 0), (0, 9)]) (asC := [(4, 0), (0, 7), (0, 0), (0, 9)]) (LN := [(0, (4, 0)), (1, (0, x1)), (2, (0, 7)), (3, (0, 2))]) (stN := []) (hsC := [jgh]) (v := (9, 0)) (st2 := []) (jA_116_1458 (d := 0)) (by rfl) (by rfl) (by decide +kernel) (by rfl) (by rfl) (by omega) (by omega) (by omega) (by omega) rfl ?_
  refine jT_xaload_n (v := (4, 0)) (pcN := 16) jI_140_15 rfl rfl rfl ?_
  refine jT_xiload_n (v := (0, 2)) (pcN := 17) jI_140_16 rfl rfl rfl ?_
  refine jT_xiconst (k := 0) (pcN := 18) jI_140_17 rfl ?_
  refine jT_xiconst (k := 2) (pcN := 19) jI_140_18 rfl ?_
  refine jT_fR [0] 21 (y := 116) (pcN := 22) (dC := 0) (bc1 := 0) (bc2 := 0) (c1 := 0) (c2 := 0) (as := [(4, 0), (0, 2), (0, 0), (0, 2)]) (asC := [(4, 0), (0, 2), (0, 0), (0, 2)]) (LN := [(0, (4, 0)), (1, (0, x1)), (2, (0, 7)), (3, (0, 2))]) (stN := []) (hsC := [jgh]) (v := (9, 0)) (st2 := []) (jA_116_1301 (d := 0)) (by rfl) (by rfl) (by decide +kernel) (by rfl) (by rfl) (by omega) (by omega) (by omega) (by omega) rfl ?_
  refine jT_xaload_n (v := (4, 0)) (pcN := 23) jI_140_22 rfl rfl rfl ?_
  refine jT_xaload_n (v := (4, 0)) (pcN := 24) jI_140_23 rfl rfl rfl ?_
  refine jT_xgetf (a := 0) (t := 1) (ci := 13) (fi := 11) (c := jzA_5) (v := (4, 11)) (pcN := 27) jI_140_24 rfl rfl rfl rfl rfl rfl rfl ?_
  refine jT_xiload_n (v := (0, x1)) (pcN := 28) jI_140_27 rfl rfl rfl ?_
  refine jT_fR [11, 14, 15, 16, 17, 18, 19] 21 (y := 57) (pcN := 31) (dC := 0) (bc1 := 0) (bc2 := 0) (c1 := 0) (c2 := 0) (as := [(4, 11), (0, x1)]) (asC := [(4, 0), (0, x1)]) (LN := [(0, (4, 0)), (1, (0, x1)), (2, (0, 7)), (3, (0, 2))]) (stN := [(4, 0)]) (hsC := jpA_47) (v := (4, 6)) (st2 := [(4, 19), (4, 0)]) (jA_57_108 (d := 0) (by omega)) (by rfl) (by rfl) (by decide +kernel) (by rfl) (by rfl) (by omega) (by omega) (by omega) (by omega) rfl ?_
  refine jT_xiload_n (v := (0, 7)) (pcN := 32) jI_140_31 rfl rfl rfl ?_
  refine jT_xiload_n (v := (0, 2)) (pcN := 33) jI_140_32 rfl rfl rfl ?_
  refine jT_fR [0, 19, 1, 2, 3, 4, 5, 6, 7, 8, 9, 10, 11, 20, 12, 13] 21 (y := 108) (pcN := 36) (dC := 4) (bc1 := 0) (bc2 := 0) (c1 := 0) (c2 := 0) (as := [(4, 0), (4, 19), (0, 7), (0, 2)]) (asC := [(4, 0), (4, 1), (0, 7), (0, 2)]) (LN := [(0, (4, 0)), (1, (0, x1)), (2, (0, 7)), (3, (0, 2))]) (stN := []) (hsC := jpA_4325) (v := (1, 0)) (st2 := [(1, 0)]) (jA_108_1477 (d := 0)) (by rfl) (by rfl) (by decide +kernel) (by rfl) (by rfl) (by omega) (by omega) (by omega) (by omega) rfl ?_
  exact jT_ret rfl (by decide) (by show 21 ≤ 21; decide) (by omega) (by omega) ⟨rfl, rfl, rfl⟩
theorem jA_347_1479 {xs : List Int} {d : Nat} {x1 : Int} (h_x1 : 0 ≤ x1 ∧ x1 ≤ 7) : jT xs (d + 6) 347 22 0 [(0, (4, 0)), (1, (0, x1)), (2, (0, 7)), (3, (0, 2)), (4, (4, 1))] [] jpA_4038 0 0 (fun k v hsN => k = 0 ∧ v = (0, 0) ∧ hsN = jpA_4038 ++ []) := by
  refine jT_xaload (v := (4, 1)) (pcN := 2) jI_347_0 rfl rfl rfl ?_
  refine jT_xiconst (k := 0) (pcN := 3) jI_347_2 rfl ?_
  refine jT_xaload_n (v := (4, 0)) (pcN := 4) jI_347_3 rfl rfl rfl ?_
  refine jT_xiload_n (v := (0, x1)) (pcN := 5) jI_347_4 rfl rfl rfl ?_
  refine jT_xiload_n (v := (0, 7)) (pcN := 6) jI_347_5 rfl rfl rfl ?_
  refine jT_xiload_n (v := (0, 2)) (pcN := 7) jI_347_6 rfl rfl rfl ?_
  refine jT_fR [0, 2, 3, 4, 5, 6, 7, 8, 9, 10, 11, 12, 13, 14, 15, 16, 17, 18, 19, 20, 21] 22 (y := 140) (pcN := 10) (dC := 5) (bc1 := 0) (bc2 := 0) (c1 := 0) (c2 := 0) (as := [(4, 0), (0, x1), (0, 7), (0, 2)]) (asC := [(4, 0), (0, x1), (0, 7), (0, 2)]) (LN := [(0, (4, 0)), (1, (0, x1)), (2, (0, 7)), (3, (0, 2)), (4, (4, 1))]) (stN := [(0, 0), (4, 1)]) (hsC := jpA_3958) (v := (1, 0)) (st2 := [(1, 0), (0, 0), (4, 1)]) (jA_140_1478 (d := 0) (by omega)) (by rfl) (by rfl) (by decide +kernel) (by rfl) (by rfl) (by omega) (by omega) (by omega) (by omega) rfl ?_
  refine jT_adv 1 (pcN := 11) (LN := [(0, (4, 0)), (1, (0, x1)), (2, (0, 7)), (3, (0, 2)), (4, (4, 1))]) (stN := []) (hsN := jpA_4038) (c1 := 0) (s1 := 0) (c2 := 0) (s2 := 0) (by exact rfl) ?_ (by omega) (by omega)
  refine jT_xgoto (pcN := 22) jI_347_11 rfl ?_
  refine jT_xiconst (k := 0) (pcN := 23) jI_347_22 rfl ?_
  exact jT_ret rfl (by decide) (by show 22 ≤ 22; decide) (by omega) (by omega) ⟨rfl, rfl, rfl⟩
theorem jA_265_1480 {xs : List Int} {d : Nat} : jT xs (d + 7) 265 22 0 [(0, (4, 0)), (1, (1, 10000000)), (3, (0, 2))] [] jpA_684 10 360 (fun k v hsN => k = 0 ∧ v = (1, 0) ∧ hsN = jpA_684 ++ jpA_3654) := by
  refine jT_advK 4 (pcN := 6) (LN := [(0, (4, 0)), (1, (1, 10000000)), (3, (0, 2))]) (stN := [(1, 12000000000), (4, 0)]) (hsN := jpA_684) (c1 := 0) (s1 := 0) (c2 := 10) (s2 := 360) (by decide +kernel) ?_ (by omega) (by omega)
  refine jT_fA [0, 1, 2, 3, 4, 5, 6, 7, 8, 9, 10, 11, 12, 13, 14, 15] 22 (y := 218) (pcN := 9) (dC := 0) (bc1 := 1) (bc2 := 6) (c1 := 9) (c2 := 354) (as := [(4, 0), (1, 12000000000)]) (asC := [(4, 0), (1, 12000000000)]) (LN := [(0, (4, 0)), (1, (1, 10000000)), (3, (0, 2))]) (stN := []) (hsC := jpA_147) (ex := [(101, [], [0, 0, 0, 0, 0, 0])]) (v := (4, 16)) (st2 := [(4, 22)]) (hs2 := jpA_3652) (jA_218_1466 (d := 0)) (by rfl) (by rfl) (by decide +kernel) (by rfl) (by rfl) (by omega) (by omega) (by omega) (by omega) rfl (by decide +kernel) ?_
  refine jT_advK 8 (pcN := 23) (LN := [(4, (4, 22)), (0, (4, 0)), (1, (1, 10000000)), (3, (0, 2))]) (stN := [(1, 1), (4, 22), (4, 0)]) (hsN := jpA_3652) (c1 := 0) (s1 := 0) (c2 := 9) (s2 := 354) (by decide +kernel) ?_ (by omega) (by omega)
  refine jT_fA [0, 22, 1, 2, 3, 4, 5, 6, 7, 8, 9, 10, 11, 12, 13, 14, 15, 16, 17, 18, 19, 20, 21] 23 (y := 216) (pcN := 26) (dC := 6) (bc1 := 9) (bc2 := 354) (c1 := 0) (c2 := 0) (as := [(4, 0), (4, 22), (1, 1)]) (asC := [(4, 0), (4, 1), (1, 1)]) (LN := [(4, (4, 22)), (0, (4, 0)), (1, (1, 10000000)), (3, (0, 2))]) (stN := []) (hsC := jpA_987) (ex := jpA_839) (v := (1, 0)) (st2 := [(1, 0)]) (hs2 := jpA_3653) (jA_216_228 (d := 0)) (by rfl) (by rfl) (by decide +kernel) (by rfl) (by rfl) (by omega) (by omega) (by omega) (by omega) rfl (by decide +kernel) ?_
  exact jT_ret rfl (by decide) (by show 22 ≤ 32; decide) (by omega) (by omega) ⟨rfl, rfl, rfl⟩
theorem jA_263_1481 {xs : List Int} {d : Nat} {x1 : Int} (h_x1 : 0 ≤ x1 ∧ x1 ≤ 7) : jT xs (d + 8) 263 22 0 [(0, (4, 0)), (1, (0, x1)), (2, (0, 7)), (3, (0, 2))] [] jpA_1695 10 360 (fun k v hsN => k = 0 ∧ v = (1, 0) ∧ hsN = jpA_1695 ++ jpA_3654) := by
  refine jT_xaload_n (v := (4, 0)) (pcN := 1) jI_263_0 rfl rfl rfl ?_
  refine jT_xiload_n (v := (0, x1)) (pcN := 2) jI_263_1 rfl rfl rfl ?_
  refine jT_fR [] 22 (y := 188) (pcN := 5) (dC := 1) (bc1 := 0) (bc2 := 0) (c1 := 10) (c2 := 360) (as := [(0, x1)]) (asC := [(0, x1)]) (LN := [(0, (4, 0)), (1, (0, x1)), (2, (0, 7)), (3, (0, 2))]) (stN := [(4, 0)]) (hsC := []) (v := (0, 1)) (st2 := [(0, 1), (4, 0)]) (jA_188_13 (d := 0) (by omega)) (by rfl) (by rfl) (by decide +kernel) (by rfl) (by rfl) (by omega) (by omega) (by omega) (by omega) rfl ?_
  refine jT_fR [0, 1, 2, 3, 4, 5, 6, 7, 8, 9, 10, 11, 12, 13, 14, 15] 22 (y := 190) (pcN := 8) (dC := 1) (bc1 := 0) (bc2 := 0) (c1 := 10) (c2 := 360) (as := [(4, 0), (0, 1)]) (asC := [(4, 0), (0, 1)]) (LN := [(0, (4, 0)), (1, (0, x1)), (2, (0, 7)), (3, (0, 2))]) (stN := []) (hsC := jpA_22) (v := (0, 0)) (st2 := [(0, 0)]) (jA_190_39 (d := 0)) (by rfl) (by rfl) (by decide +kernel) (by rfl) (by rfl) (by omega) (by omega) (by omega) (by omega) rfl ?_
  refine jT_xifF (t := 48) (pcN := 11) jI_263_8 rfl (by decide +kernel) rfl rfl ?_
  refine jT_xaload_n (v := (4, 0)) (pcN := 12) jI_263_11 rfl rfl rfl ?_
  refine jT_xiload_n (v := (0, 7)) (pcN := 13) jI_263_12 rfl rfl rfl ?_
  refine jT_xi2l (x := 7) (z := 7) (pcN := 14) jI_263_13 rfl (by decide +kernel) rfl ?_
  refine jT_xlconst (z := 0) (pcN := 15) jI_263_14 rfl rfl ?_
  refine jT_adv 1 (pcN := 18) (LN := [(0, (4, 0)), (1, (0, x1)), (2, (0, 7)), (3, (0, 2))]) (stN := [(1, 9), (1, 0), (1, 7), (4, 0)]) (hsN := jpA_1695) (c1 := 0) (s1 := 0) (c2 := 10) (s2 := 360) (by exact rfl) ?_ (by omega) (by omega)
  refine jT_fR [] 22 (y := 189) (pcN := 21) (dC := 0) (bc1 := 0) (bc2 := 0) (c1 := 10) (c2 := 360) (as := [(1, 7), (1, 0), (1, 9)]) (asC := [(1, 7), (1, 0), (1, 9)]) (LN := [(0, (4, 0)), (1, (0, x1)), (2, (0, 7)), (3, (0, 2))]) (stN := [(4, 0)]) (hsC := []) (v := (0, 1)) (st2 := [(0, 1), (4, 0)]) (jA_189_1464 (d := 0)) (by rfl) (by rfl) (by decide +kernel) (by rfl) (by rfl) (by omega) (by omega) (by omega) (by omega) rfl ?_
  refine jT_xifF (t := 40) (pcN := 24) jI_263_21 rfl (by decide +kernel) rfl rfl ?_
  refine jT_xiload_n (v := (0, 2)) (pcN := 25) jI_263_24 rfl rfl rfl ?_
  refine jT_xi2l (x := 2) (z := 2) (pcN := 26) jI_263_25 rfl (by decide +kernel) rfl ?_
  refine jT_xlconst (z := 0) (pcN := 27) jI_263_26 rfl rfl ?_
  refine jT_adv 1 (pcN := 30) (LN := [(0, (4, 0)), (1, (0, x1)), (2, (0, 7)), (3, (0, 2))]) (stN := [(1, 2), (1, 0), (1, 2), (4, 0)]) (hsN := jpA_1695) (c1 := 0) (s1 := 0) (c2 := 10) (s2 := 360) (by exact rfl) ?_ (by omega) (by omega)
  refine jT_fR [] 22 (y := 189) (pcN := 33) (dC := 0) (bc1 := 0) (bc2 := 0) (c1 := 10) (c2 := 360) (as := [(1, 2), (1, 0), (1, 2)]) (asC := [(1, 2), (1, 0), (1, 2)]) (LN := [(0, (4, 0)), (1, (0, x1)), (2, (0, 7)), (3, (0, 2))]) (stN := [(4, 0)]) (hsC := []) (v := (0, 1)) (st2 := [(0, 1), (4, 0)]) (jA_189_1305 (d := 0)) (by rfl) (by rfl) (by decide +kernel) (by rfl) (by rfl) (by omega) (by omega) (by omega) (by omega) rfl ?_
  refine jT_xifF (t := 40) (pcN := 36) jI_263_33 rfl (by decide +kernel) rfl rfl ?_
  refine jT_xiconst (k := 1) (pcN := 37) jI_263_36 rfl ?_
  refine jT_xgoto (pcN := 41) jI_263_37 rfl ?_
  refine jT_xiconst (k := 2) (pcN := 42) jI_263_41 rfl ?_
  refine jT_fR [0] 22 (y := 191) (pcN := 45) (dC := 0) (bc1 := 0) (bc2 := 0) (c1 := 10) (c2 := 360) (as := [(4, 0), (0, 1), (0, 2)]) (asC := [(4, 0), (0, 1), (0, 2)]) (LN := [(0, (4, 0)), (1, (0, x1)), (2, (0, 7)), (3, (0, 2))]) (stN := []) (hsC := [jgh]) (v := (0, 0)) (st2 := [(0, 0)]) (jA_191_49 (d := 0)) (by rfl) (by rfl) (by decide +kernel) (by rfl) (by rfl) (by omega) (by omega) (by omega) (by omega) rfl ?_
  refine jT_xifT (pcN := 50) jI_263_45 rfl (by decide +kernel) rfl ?_
  refine jT_xaload_n (v := (4, 0)) (pcN := 51) jI_263_50 rfl rfl rfl ?_
  refine jT_xiload_n (v := (0, x1)) (pcN := 52) jI_263_51 rfl rfl rfl ?_
  refine jT_fR [0, 1, 2, 3, 4, 5, 6, 7, 8, 9, 10, 11, 12, 13, 14, 15] 22 (y := 202) (pcN := 55) (dC := 1) (bc1 := 0) (bc2 := 0) (c1 := 10) (c2 := 360) (as := [(4, 0), (0, x1)]) (asC := [(4, 0), (0, x1)]) (LN := [(0, (4, 0)), (1, (0, x1)), (2, (0, 7)), (3, (0, 2))]) (stN := []) (hsC := jpA_130) (v := (9, 0)) (st2 := []) (jA_202_115 (d := 0) (by omega)) (by rfl) (by rfl) (by decide +kernel) (by rfl) (by rfl) (by omega) (by omega) (by omega) (by omega) rfl ?_
  refine jT_xaload_n (v := (4, 0)) (pcN := 56) jI_263_55 rfl rfl rfl ?_
  refine jT_xiload_n (v := (0, 7)) (pcN := 57) jI_263_56 rfl rfl rfl ?_
  refine jT_fR [] 22 (y := 264) (pcN := 60) (dC := 0) (bc1 := 0) (bc2 := 0) (c1 := 10) (c2 := 360) (as := [(0, 7)]) (asC := [(0, 7)]) (LN := [(0, (4, 0)), (1, (0, x1)), (2, (0, 7)), (3, (0, 2))]) (stN := [(4, 0)]) (hsC := []) (v := (1, 10000000)) (st2 := [(1, 10000000), (4, 0)]) (jA_264_1465 (d := 0)) (by rfl) (by rfl) (by decide +kernel) (by rfl) (by rfl) (by omega) (by omega) (by omega) (by omega) rfl ?_
  refine jT_xiload_n (v := (0, 2)) (pcN := 61) jI_263_60 rfl rfl rfl ?_
  refine jT_fA [0, 1, 2, 3, 4, 5, 6, 7, 8, 9, 10, 11, 12, 13, 14, 15, 16, 17, 18, 19, 20, 21] 22 (y := 265) (pcN := 64) (dC := 7) (bc1 := 10) (bc2 := 360) (c1 := 0) (c2 := 0) (as := [(4, 0), (1, 10000000), (0, 2)]) (asC := [(4, 0), (1, 10000000), (0, 2)]) (LN := [(0, (4, 0)), (1, (0, x1)), (2, (0, 7)), (3, (0, 2))]) (stN := []) (hsC := jpA_684) (ex := jpA_3654) (v := (1, 0)) (st2 := [(1, 0)]) (hs2 := jpA_3655) (jA_265_1480 (d := 0)) (by rfl) (by rfl) (by decide +kernel) (by rfl) (by rfl) (by omega) (by omega) (by omega) (by omega) rfl (by decide +kernel) ?_
  exact jT_ret rfl (by decide) (by show 22 ≤ 32; decide) (by omega) (by omega) ⟨rfl, rfl, rfl⟩
theorem jA_116_1482 {xs : List Int} {d : Nat} {x2 : Int} (h_x2 : 8 ≤ x2 ∧ x2 ≤ 9) : jT xs d 116 1 0 [(0, (4, 0)), (1, (0, x2)), (2, (0, 0)), (3, (0, 9))] [] [jgh] 0 0 (fun k v hsN => k = 0 ∧ v = (9, 0) ∧ hsN = [jgh] ++ []) := by
  refine jT_xiload_n (v := (0, x2)) (pcN := 1) jI_116_0 rfl rfl rfl ?_
  refine jT_xiload_n (v := (0, 0)) (pcN := 2) jI_116_1 rfl rfl rfl ?_
  refine jT_icF (a := x2) (b := 0) (t := 10) (by rfl) (by rfl) (by rfl) (jw_idd (by omega) (by omega)) (jw_idd (by omega) (by omega)) (by simp only [jcP] <;> omega) ?_
  refine jT_xiload_n (v := (0, x2)) (pcN := 6) jI_116_5 rfl rfl rfl ?_
  refine jT_xiload_n (v := (0, 9)) (pcN := 7) jI_116_6 rfl rfl rfl ?_
  refine jT_icT (a := x2) (b := 9) (t := 21) (by rfl) (by rfl) (by rfl) (jw_idd (by omega) (by omega)) (jw_idd (by omega) (by omega)) (by simp only [jcP] <;> omega) ?_
  exact jT_ret rfl (by decide) (by show 1 ≤ 1; decide) (by omega) (by omega) ⟨rfl, rfl, rfl⟩
theorem jA_116_1483 {xs : List Int} {d : Nat} : jT xs d 116 1 0 [(0, (4, 0)), (1, (0, 8)), (2, (0, 0)), (3, (0, 9))] [] [jgh] 0 0 (fun k v hsN => k = 0 ∧ v = (9, 0) ∧ hsN = [jgh] ++ []) := by
  refine jT_advK 6 (pcN := 21) (LN := [(0, (4, 0)), (1, (0, 8)), (2, (0, 0)), (3, (0, 9))]) (stN := []) (hsN := [jgh]) (c1 := 0) (s1 := 0) (c2 := 0) (s2 := 0) (by decide +kernel) ?_ (by omega) (by omega)
  exact jT_ret rfl (by decide) (by show 1 ≤ 1; decide) (by omega) (by omega) ⟨rfl, rfl, rfl⟩
theorem jA_45_1484 {xs : List Int} {d : Nat} : jT xs (d + 1) 45 4 0 [(0, (4, 0)), (1, (4, 1)), (2, (1, 1)), (4, (1, 120000000000))] [] jpA_625 0 0 (fun k v hsN => k = 0 ∧ v = (1, 0) ∧ hsN = jpA_625 ++ []) := by
  refine jT_advK 10 (pcN := 17) (LN := [(0, (4, 0)), (1, (4, 1)), (2, (1, 1)), (4, (1, 120000000000))]) (stN := [(4, 1), (4, 0)]) (hsN := jpA_625) (c1 := 0) (s1 := 0) (c2 := 0) (s2 := 0) (by decide +kernel) ?_ (by omega) (by omega)
  refine jT_fR [0, 1] 4 (y := 39) (pcN := 20) (dC := 0) (bc1 := 0) (bc2 := 0) (c1 := 0) (c2 := 0) (as := [(4, 0), (4, 1)]) (asC := [(4, 0), (4, 1)]) (LN := [(0, (4, 0)), (1, (4, 1)), (2, (1, 1)), (4, (1, 120000000000))]) (stN := []) (hsC := [jgh, (101, [], [0, 0, 0, 0, 0, 0])]) (v := (1, 0)) (st2 := [(1, 0)]) (jA_39_144 (d := 0)) (by rfl) (by rfl) (by decide +kernel) (by rfl) (by rfl) (by omega) (by omega) (by omega) (by omega) rfl ?_
  refine jT_advK 11 (pcN := 36) (LN := [(6, (1, 0)), (0, (4, 0)), (1, (4, 1)), (2, (1, 1)), (4, (1, 120000000000))]) (stN := [(1, 1), (1, 0)]) (hsN := jpA_625) (c1 := 0) (s1 := 0) (c2 := 0) (s2 := 0) (by decide +kernel) ?_ (by omega) (by omega)
  refine jT_fR [] 4 (y := 373) (pcN := 39) (dC := 0) (bc1 := 0) (bc2 := 0) (c1 := 0) (c2 := 0) (as := [(1, 0), (1, 1)]) (asC := [(1, 0), (1, 1)]) (LN := [(6, (1, 0)), (0, (4, 0)), (1, (4, 1)), (2, (1, 1)), (4, (1, 120000000000))]) (stN := []) (hsC := []) (v := (1, 0)) (st2 := [(1, 0)]) (jA_373_145 (d := 0)) (by rfl) (by rfl) (by decide +kernel) (by rfl) (by rfl) (by omega) (by omega) (by omega) (by omega) rfl ?_
  exact jT_ret rfl (by decide) (by show 4 ≤ 4; decide) (by omega) (by omega) ⟨rfl, rfl, rfl⟩
theorem jA_44_1485 {xs : List Int} {d : Nat} : jT xs (d + 2) 44 5 0 [(0, (4, 0)), (1, (4, 1)), (2, (1, 120000000000))] [] jpA_626 0 0 (fun k v hsN => k = 0 ∧ v = (1, 0) ∧ hsN = jpA_626 ++ []) := by
  refine jT_advK 6 (pcN := 10) (LN := [(0, (4, 0)), (1, (4, 1)), (2, (1, 120000000000))]) (stN := [(1, 120000000000), (1, 1), (4, 4), (4, 0)]) (hsN := jpA_626) (c1 := 0) (s1 := 0) (c2 := 0) (s2 := 0) (by decide +kernel) ?_ (by omega) (by omega)
  refine jT_fR [0, 4, 2, 3] 5 (y := 45) (pcN := 13) (dC := 1) (bc1 := 0) (bc2 := 0) (c1 := 0) (c2 := 0) (as := [(4, 0), (4, 4), (1, 1), (1, 120000000000)]) (asC := [(4, 0), (4, 1), (1, 1), (1, 120000000000)]) (LN := [(0, (4, 0)), (1, (4, 1)), (2, (1, 120000000000))]) (stN := []) (hsC := jpA_625) (v := (1, 0)) (st2 := [(1, 0)]) (jA_45_1484 (d := 0)) (by rfl) (by rfl) (by decide +kernel) (by rfl) (by rfl) (by omega) (by omega) (by omega) (by omega) rfl ?_
  exact jT_ret rfl (by decide) (by show 5 ≤ 5; decide) (by omega) (by omega) ⟨rfl, rfl, rfl⟩
theorem jA_108_1486 {xs : List Int} {d : Nat} : jT xs (d + 3) 108 16 0 [(0, (4, 0)), (1, (4, 1)), (2, (0, 8)), (3, (0, 0))] [] jpA_4325 0 0 (fun k v hsN => k = 0 ∧ v = (1, 0) ∧ hsN = jpA_4325 ++ []) := by
  refine jT_advK 88 (pcN := 55) (LN := [(6, (0, 8)), (4, (1, 120000000000)), (0, (4, 0)), (1, (4, 1)), (2, (0, 8)), (3, (0, 0))]) (stN := [(1, 120000000000), (4, 1), (4, 2)]) (hsN := jpA_4325) (c1 := 0) (s1 := 0) (c2 := 0) (s2 := 0) (by decide +kernel) ?_ (by omega) (by omega)
  refine jT_fR [2, 1, 14, 15, 13] 16 (y := 44) (pcN := 58) (dC := 2) (bc1 := 0) (bc2 := 0) (c1 := 0) (c2 := 0) (as := [(4, 2), (4, 1), (1, 120000000000)]) (asC := [(4, 0), (4, 1), (1, 120000000000)]) (LN := [(6, (0, 8)), (4, (1, 120000000000)), (0, (4, 0)), (1, (4, 1)), (2, (0, 8)), (3, (0, 0))]) (stN := []) (hsC := jpA_626) (v := (1, 0)) (st2 := [(1, 0)]) (jA_44_1485 (d := 0)) (by rfl) (by rfl) (by decide +kernel) (by rfl) (by rfl) (by omega) (by omega) (by omega) (by omega) rfl ?_
  exact jT_ret rfl (by decide) (by show 16 ≤ 16; decide) (by omega) (by omega) ⟨rfl, rfl, rfl⟩
theorem jA_140_1487 {xs : List Int} {d : Nat} {x1 : Int} (h_x1 : 0 ≤ x1 ∧ x1 ≤ 7) : jT xs (d + 4) 140 21 0 [(0, (4, 0)), (1, (0, x1)), (2, (0, 8)), (3, (0, 0))] [] jpA_3958 0 0 (fun k v hsN => k = 0 ∧ v = (1, 0) ∧ hsN = jpA_3958 ++ []) := by
  refine jT_xaload_n (v := (4, 0)) (pcN := 1) jI_140_0 rfl rfl rfl ?_
  refine jT_xiload_n (v := (0, x1)) (pcN := 2) jI_140_1 rfl rfl rfl ?_
  refine jT_xbipush (k := 8) (pcN := 4) jI_140_2 (by decide) rfl ?_
  refine jT_fR [0] 21 (y := 115) (pcN := 7) (dC := 0) (bc1 := 0) (bc2 := 0) (c1 := 0) (c2 := 0) (as := [(4, 0), (0, x1), (0, 8)]) (asC := [(4, 0), (0, x1), (0, 8)]) (LN := [(0, (4, 0)), (1, (0, x1)), (2, (0, 8)), (3, (0, 0))]) (stN := []) (hsC := [jgh]) (v := (9, 0)) (st2 := []) (jA_115_9 (d := 0) (by omega)) (by rfl) (by rfl) (by decide +kernel) (by rfl) (by rfl) (by omega) (by omega) (by omega) (by omega) rfl ?_
  refine jT_xaload_n (v := (4, 0)) (pcN := 8) jI_140_7 rfl rfl rfl ?_
  refine jT_xiload_n (v := (0, 8)) (pcN := 9) jI_140_8 rfl rfl rfl ?_
  refine jT_xiconst (k := 0) (pcN := 10) jI_140_9 rfl ?_
  refine jT_xbipush (k := 9) (pcN := 12) jI_140_10 (by decide) rfl ?_
  refine jT_fR [0] 21 (y := 116) (pcN := 15) (dC := 0) (bc1 := 0) (bc2 := 0) (c1 := 0) (c2 := 0) (as := [(4, 0), (0, 8), (0, 0), (0, 9)]) (asC := [(4, 0), (0, 8), (0, 0), (0, 9)]) (LN := [(0, (4, 0)), (1, (0, x1)), (2, (0, 8)), (3, (0, 0))]) (stN := []) (hsC := [jgh]) (v := (9, 0)) (st2 := []) (jA_116_1483 (d := 0)) (by rfl) (by rfl) (by decide +kernel) (by rfl) (by rfl) (by omega) (by omega) (by omega) (by omega) rfl ?_
  refine jT_xaload_n (v := (4, 0)) (pcN := 16) jI_140_15 rfl rfl rfl ?_
  refine jT_xiload_n (v := (0, 0)) (pcN := 17) jI_140_16 rfl rfl rfl ?_
  refine jT_xiconst (k := 0) (pcN := 18) jI_140_17 rfl ?_
  refine jT_xiconst (k := 2) (pcN := 19) jI_140_18 rfl ?_
  refine jT_fR [0] 21 (y := 116) (pcN := 22) (dC := 0) (bc1 := 0) (bc2 := 0) (c1 := 0) (c2 := 0) (as := [(4, 0), (0, 0), (0, 0), (0, 2)]) (asC := [(4, 0), (0, 0), (0, 0), (0, 2)]) (LN := [(0, (4, 0)), (1, (0, x1)), (2, (0, 8)), (3, (0, 0))]) (stN := []) (hsC := [jgh]) (v := (9, 0)) (st2 := []) (jA_116_1279 (d := 0)) (by rfl) (by rfl) (by decide +kernel) (by rfl) (by rfl) (by omega) (by omega) (by omega) (by omega) rfl ?_
  refine jT_xaload_n (v := (4, 0)) (pcN := 23) jI_140_22 rfl rfl rfl ?_
  refine jT_xaload_n (v := (4, 0)) (pcN := 24) jI_140_23 rfl rfl rfl ?_
  refine jT_xgetf (a := 0) (t := 1) (ci := 13) (fi := 11) (c := jzA_5) (v := (4, 11)) (pcN := 27) jI_140_24 rfl rfl rfl rfl rfl rfl rfl ?_
  refine jT_xiload_n (v := (0, x1)) (pcN := 28) jI_140_27 rfl rfl rfl ?_
  refine jT_fR [11, 14, 15, 16, 17, 18, 19] 21 (y := 57) (pcN := 31) (dC := 0) (bc1 := 0) (bc2 := 0) (c1 := 0) (c2 := 0) (as := [(4, 11), (0, x1)]) (asC := [(4, 0), (0, x1)]) (LN := [(0, (4, 0)), (1, (0, x1)), (2, (0, 8)), (3, (0, 0))]) (stN := [(4, 0)]) (hsC := jpA_47) (v := (4, 6)) (st2 := [(4, 19), (4, 0)]) (jA_57_108 (d := 0) (by omega)) (by rfl) (by rfl) (by decide +kernel) (by rfl) (by rfl) (by omega) (by omega) (by omega) (by omega) rfl ?_
  refine jT_xiload_n (v := (0, 8)) (pcN := 32) jI_140_31 rfl rfl rfl ?_
  refine jT_xiload_n (v := (0, 0)) (pcN := 33) jI_140_32 rfl rfl rfl ?_
  refine jT_fR [0, 19, 1, 2, 3, 4, 5, 6, 7, 8, 9, 10, 11, 20, 12, 13] 21 (y := 108) (pcN := 36) (dC := 3) (bc1 := 0) (bc2 := 0) (c1 := 0) (c2 := 0) (as := [(4, 0), (4, 19), (0, 8), (0, 0)]) (asC := [(4, 0), (4, 1), (0, 8), (0, 0)]) (LN := [(0, (4, 0)), (1, (0, x1)), (2, (0, 8)), (3, (0, 0))]) (stN := []) (hsC := jpA_4325) (v := (1, 0)) (st2 := [(1, 0)]) (jA_108_1486 (d := 0)) (by rfl) (by rfl) (by decide +kernel) (by rfl) (by rfl) (by omega) (by omega) (by omega) (by omega) rfl ?_
  exact jT_ret rfl (by decide) (by show 21 ≤ 21; decide) (by omega) (by omega) ⟨rfl, rfl, rfl⟩
theorem jA_347_1488 {xs : List Int} {d : Nat} {x1 : Int} (h_x1 : 0 ≤ x1 ∧ x1 ≤ 7) : jT xs (d + 5) 347 22 0 [(0, (4, 0)), (1, (0, x1)), (2, (0, 8)), (3, (0, 0)), (4, (4, 1))] [] jpA_4038 0 0 (fun k v hsN => k = 0 ∧ v = (0, 0) ∧ hsN = jpA_4038 ++ []) := by
  refine jT_xaload (v := (4, 1)) (pcN := 2) jI_347_0 rfl rfl rfl ?_
  refine jT_xiconst (k := 0) (pcN := 3) jI_347_2 rfl ?_
  refine jT_xaload_n (v := (4, 0)) (pcN := 4) jI_347_3 rfl rfl rfl ?_
  refine jT_xiload_n (v := (0, x1)) (pcN := 5) jI_347_4 rfl rfl rfl ?_
  refine jT_xiload_n (v := (0, 8)) (pcN := 6) jI_347_5 rfl rfl rfl ?_
  refine jT_xiload_n (v := (0, 0)) (pcN := 7) jI_347_6 rfl rfl rfl ?_
  refine jT_fR [0, 2, 3, 4, 5, 6, 7, 8, 9, 10, 11, 12, 13, 14, 15, 16, 17, 18, 19, 20, 21] 22 (y := 140) (pcN := 10) (dC := 4) (bc1 := 0) (bc2 := 0) (c1 := 0) (c2 := 0) (as := [(4, 0), (0, x1), (0, 8), (0, 0)]) (asC := [(4, 0), (0, x1), (0, 8), (0, 0)]) (LN := [(0, (4, 0)), (1, (0, x1)), (2, (0, 8)), (3, (0, 0)), (4, (4, 1))]) (stN := [(0, 0), (4, 1)]) (hsC := jpA_3958) (v := (1, 0)) (st2 := [(1, 0), (0, 0), (4, 1)]) (jA_140_1487 (d := 0) (by omega)) (by rfl) (by rfl) (by decide +kernel) (by rfl) (by rfl) (by omega) (by omega) (by omega) (by omega) rfl ?_
  refine jT_adv 1 (pcN := 11) (LN := [(0, (4, 0)), (1, (0, x1)), (2, (0, 8)), (3, (0, 0)), (4, (4, 1))]) (stN := []) (hsN := jpA_4038) (c1 := 0) (s1 := 0) (c2 := 0) (s2 := 0) (by exact rfl) ?_ (by omega) (by omega)
  refine jT_xgoto (pcN := 22) jI_347_11 rfl ?_
  refine jT_xiconst (k := 0) (pcN := 23) jI_347_22 rfl ?_
  exact jT_ret rfl (by decide) (by show 22 ≤ 22; decide) (by omega) (by omega) ⟨rfl, rfl, rfl⟩
theorem jA_189_1489 {xs : List Int} {d : Nat} : jT xs d 189 0 0 [(0, (1, 8)), (2, (1, 0)), (4, (1, 9))] [] [] 0 0 (fun k v hsN => k = 0 ∧ v = (0, 1) ∧ hsN = [] ++ []) := by
  refine jT_advK 10 (pcN := 18) (LN := [(0, (1, 8)), (2, (1, 0)), (4, (1, 9))]) (stN := [(0, 1)]) (hsN := []) (c1 := 0) (s1 := 0) (c2 := 0) (s2 := 0) (by decide +kernel) ?_ (by omega) (by omega)
  exact jT_ret rfl (by decide) (by show 0 ≤ 0; decide) (by omega) (by omega) ⟨rfl, rfl, rfl⟩
theorem jA_264_1490 {xs : List Int} {d : Nat} : jT xs d 264 0 0 [(0, (0, 8))] [] [] 0 0 (fun k v hsN => k = 0 ∧ v = (1, 100000000) ∧ hsN = [] ++ []) := by
  refine jT_advK 80 (pcN := 22) (LN := [(3, (0, 8)), (1, (1, 100000000)), (0, (0, 8))]) (stN := [(1, 100000000)]) (hsN := []) (c1 := 0) (s1 := 0) (c2 := 0) (s2 := 0) (by decide +kernel) ?_ (by omega) (by omega)
  exact jT_ret rfl (by decide) (by show 0 ≤ 0; decide) (by omega) (by omega) ⟨rfl, rfl, rfl⟩
theorem jA_218_1491 {xs : List Int} {d : Nat} : jT xs d 218 16 0 [(0, (4, 0)), (1, (1, 120000000000))] [] jpA_147 1 6 (fun k v hsN => k = 0 ∧ v = (4, 16) ∧ hsN = jpA_147 ++ [(101, [], [0, 0, 0, 0, 0, 0])]) := by
  refine jT_advK 93 (pcN := 35) (LN := [(4, (0, 6)), (3, (4, 16)), (0, (4, 0)), (1, (1, 120000000000))]) (stN := [(4, 16)]) (hsN := jpA_984) (c1 := 1) (s1 := 6) (c2 := 0) (s2 := 0) (by decide +kernel) ?_ (by omega) (by omega)
  exact jT_ret rfl (by decide) (by show 16 ≤ 17; decide) (by omega) (by omega) ⟨rfl, rfl, rfl⟩
theorem jA_265_1492 {xs : List Int} {d : Nat} : jT xs (d + 6) 265 22 0 [(0, (4, 0)), (1, (1, 100000000)), (3, (0, 0))] [] jpA_684 6 186 (fun k v hsN => k = 0 ∧ v = (1, 0) ∧ hsN = jpA_684 ++ jpA_4341) := by
  refine jT_advK 4 (pcN := 6) (LN := [(0, (4, 0)), (1, (1, 100000000)), (3, (0, 0))]) (stN := [(1, 120000000000), (4, 0)]) (hsN := jpA_684) (c1 := 0) (s1 := 0) (c2 := 6) (s2 := 186) (by decide +kernel) ?_ (by omega) (by omega)
  refine jT_fA [0, 1, 2, 3, 4, 5, 6, 7, 8, 9, 10, 11, 12, 13, 14, 15] 22 (y := 218) (pcN := 9) (dC := 0) (bc1 := 1) (bc2 := 6) (c1 := 5) (c2 := 180) (as := [(4, 0), (1, 120000000000)]) (asC := [(4, 0), (1, 120000000000)]) (LN := [(0, (4, 0)), (1, (1, 100000000)), (3, (0, 0))]) (stN := []) (hsC := jpA_147) (ex := [(101, [], [0, 0, 0, 0, 0, 0])]) (v := (4, 16)) (st2 := [(4, 22)]) (hs2 := jpA_3652) (jA_218_1491 (d := 0)) (by rfl) (by rfl) (by decide +kernel) (by rfl) (by rfl) (by omega) (by omega) (by omega) (by omega) rfl (by decide +kernel) ?_
  refine jT_advK 8 (pcN := 34) (LN := [(4, (4, 22)), (0, (4, 0)), (1, (1, 100000000)), (3, (0, 0))]) (stN := [(1, 1), (4, 22), (4, 0)]) (hsN := jpA_3652) (c1 := 0) (s1 := 0) (c2 := 5) (s2 := 180) (by decide +kernel) ?_ (by omega) (by omega)
  refine jT_fA [0, 22, 1, 2, 3, 4, 5, 6, 7, 8, 9, 10, 11, 12, 13, 14, 15, 16, 17, 18, 19, 20, 21] 23 (y := 210) (pcN := 37) (dC := 5) (bc1 := 5) (bc2 := 180) (c1 := 0) (c2 := 0) (as := [(4, 0), (4, 22), (1, 1)]) (asC := [(4, 0), (4, 1), (1, 1)]) (LN := [(4, (4, 22)), (0, (4, 0)), (1, (1, 100000000)), (3, (0, 0))]) (stN := []) (hsC := jpA_987) (ex := jpA_683) (v := (1, 0)) (st2 := [(1, 0)]) (hs2 := jpA_4340) (jA_210_1290 (d := 0)) (by rfl) (by rfl) (by decide +kernel) (by rfl) (by rfl) (by omega) (by omega) (by omega) (by omega) rfl (by decide +kernel) ?_
  refine jT_advK 5 (pcN := 68) (LN := [(5, (1, 0)), (4, (4, 22)), (0, (4, 0)), (1, (1, 100000000)), (3, (0, 0))]) (stN := [(1, 0)]) (hsN := jpA_4340) (c1 := 0) (s1 := 0) (c2 := 0) (s2 := 0) (by decide +kernel) ?_ (by omega) (by omega)
  exact jT_ret rfl (by decide) (by show 22 ≤ 28; decide) (by omega) (by omega) ⟨rfl, rfl, rfl⟩
theorem jA_263_1493 {xs : List Int} {d : Nat} {x1 : Int} (h_x1 : 0 ≤ x1 ∧ x1 ≤ 7) : jT xs (d + 7) 263 22 0 [(0, (4, 0)), (1, (0, x1)), (2, (0, 8)), (3, (0, 0))] [] jpA_1695 6 186 (fun k v hsN => k = 0 ∧ v = (1, 0) ∧ hsN = jpA_1695 ++ jpA_4341) := by
  refine jT_xaload_n (v := (4, 0)) (pcN := 1) jI_263_0 rfl rfl rfl ?_
  refine jT_xiload_n (v := (0, x1)) (pcN := 2) jI_263_1 rfl rfl rfl ?_
  refine jT_fR [] 22 (y := 188) (pcN := 5) (dC := 1) (bc1 := 0) (bc2 := 0) (c1 := 6) (c2 := 186) (as := [(0, x1)]) (asC := [(0, x1)]) (LN := [(0, (4, 0)), (1, (0, x1)), (2, (0, 8)), (3, (0, 0))]) (stN := [(4, 0)]) (hsC := []) (v := (0, 1)) (st2 := [(0, 1), (4, 0)]) (jA_188_13 (d := 0) (by omega)) (by rfl) (by rfl) (by decide +kernel) (by rfl) (by rfl) (by omega) (by omega) (by omega) (by omega) rfl ?_
  refine jT_fR [0, 1, 2, 3, 4, 5, 6, 7, 8, 9, 10, 11, 12, 13, 14, 15] 22 (y := 190) (pcN := 8) (dC := 1) (bc1 := 0) (bc2 := 0) (c1 := 6) (c2 := 186) (as := [(4, 0), (0, 1)]) (asC := [(4, 0), (0, 1)]) (LN := [(0, (4, 0)), (1, (0, x1)), (2, (0, 8)), (3, (0, 0))]) (stN := []) (hsC := jpA_22) (v := (0, 0)) (st2 := [(0, 0)]) (jA_190_39 (d := 0)) (by rfl) (by rfl) (by decide +kernel) (by rfl) (by rfl) (by omega) (by omega) (by omega) (by omega) rfl ?_
  refine jT_xifF (t := 48) (pcN := 11) jI_263_8 rfl (by decide +kernel) rfl rfl ?_
  refine jT_xaload_n (v := (4, 0)) (pcN := 12) jI_263_11 rfl rfl rfl ?_
  refine jT_xiload_n (v := (0, 8)) (pcN := 13) jI_263_12 rfl rfl rfl ?_
  refine jT_xi2l (x := 8) (z := 8) (pcN := 14) jI_263_13 rfl (by decide +kernel) rfl ?_
  refine jT_xlconst (z := 0) (pcN := 15) jI_263_14 rfl rfl ?_
  refine jT_adv 1 (pcN := 18) (LN := [(0, (4, 0)), (1, (0, x1)), (2, (0, 8)), (3, (0, 0))]) (stN := [(1, 9), (1, 0), (1, 8), (4, 0)]) (hsN := jpA_1695) (c1 := 0) (s1 := 0) (c2 := 6) (s2 := 186) (by exact rfl) ?_ (by omega) (by omega)
  refine jT_fR [] 22 (y := 189) (pcN := 21) (dC := 0) (bc1 := 0) (bc2 := 0) (c1 := 6) (c2 := 186) (as := [(1, 8), (1, 0), (1, 9)]) (asC := [(1, 8), (1, 0), (1, 9)]) (LN := [(0, (4, 0)), (1, (0, x1)), (2, (0, 8)), (3, (0, 0))]) (stN := [(4, 0)]) (hsC := []) (v := (0, 1)) (st2 := [(0, 1), (4, 0)]) (jA_189_1489 (d := 0)) (by rfl) (by rfl) (by decide +kernel) (by rfl) (by rfl) (by omega) (by omega) (by omega) (by omega) rfl ?_
  refine jT_xifF (t := 40) (pcN := 24) jI_263_21 rfl (by decide +kernel) rfl rfl ?_
  refine jT_xiload_n (v := (0, 0)) (pcN := 25) jI_263_24 rfl rfl rfl ?_
  refine jT_xi2l (x := 0) (z := 0) (pcN := 26) jI_263_25 rfl (by decide +kernel) rfl ?_
  refine jT_xlconst (z := 0) (pcN := 27) jI_263_26 rfl rfl ?_
  refine jT_adv 1 (pcN := 30) (LN := [(0, (4, 0)), (1, (0, x1)), (2, (0, 8)), (3, (0, 0))]) (stN := [(1, 2), (1, 0), (1, 0), (4, 0)]) (hsN := jpA_1695) (c1 := 0) (s1 := 0) (c2 := 6) (s2 := 186) (by exact rfl) ?_ (by omega) (by omega)
  refine jT_fR [] 22 (y := 189) (pcN := 33) (dC := 0) (bc1 := 0) (bc2 := 0) (c1 := 6) (c2 := 186) (as := [(1, 0), (1, 0), (1, 2)]) (asC := [(1, 0), (1, 0), (1, 2)]) (LN := [(0, (4, 0)), (1, (0, x1)), (2, (0, 8)), (3, (0, 0))]) (stN := [(4, 0)]) (hsC := []) (v := (0, 1)) (st2 := [(0, 1), (4, 0)]) (jA_189_1286 (d := 0)) (by rfl) (by rfl) (by decide +kernel) (by rfl) (by rfl) (by omega) (by omega) (by omega) (by omega) rfl ?_
  refine jT_xifF (t := 40) (pcN := 36) jI_263_33 rfl (by decide +kernel) rfl rfl ?_
  refine jT_xiconst (k := 1) (pcN := 37) jI_263_36 rfl ?_
  refine jT_xgoto (pcN := 41) jI_263_37 rfl ?_
  refine jT_xiconst (k := 2) (pcN := 42) jI_263_41 rfl ?_
  refine jT_fR [0] 22 (y := 191) (pcN := 45) (dC := 0) (bc1 := 0) (bc2 := 0) (c1 := 6) (c2 := 186) (as := [(4, 0), (0, 1), (0, 2)]) (asC := [(4, 0), (0, 1), (0, 2)]) (LN := [(0, (4, 0)), (1, (0, x1)), (2, (0, 8)), (3, (0, 0))]) (stN := []) (hsC := [jgh]) (v := (0, 0)) (st2 := [(0, 0)]) (jA_191_49 (d := 0)) (by rfl) (by rfl) (by decide +kernel) (by rfl) (by rfl) (by omega) (by omega) (by omega) (by omega) rfl ?_
  refine jT_xifT (pcN := 50) jI_263_45 rfl (by decide +kernel) rfl ?_
  refine jT_xaload_n (v := (4, 0)) (pcN := 51) jI_263_50 rfl rfl rfl ?_
  refine jT_xiload_n (v := (0, x1)) (pcN := 52) jI_263_51 rfl rfl rfl ?_
  refine jT_fR [0, 1, 2, 3, 4, 5, 6, 7, 8, 9, 10, 11, 12, 13, 14, 15] 22 (y := 202) (pcN := 55) (dC := 1) (bc1 := 0) (bc2 := 0) (c1 := 6) (c2 := 186) (as := [(4, 0), (0, x1)]) (asC := [(4, 0), (0, x1)]) (LN := [(0, (4, 0)), (1, (0, x1)), (2, (0, 8)), (3, (0, 0))]) (stN := []) (hsC := jpA_130) (v := (9, 0)) (st2 := []) (jA_202_115 (d := 0) (by omega)) (by rfl) (by rfl) (by decide +kernel) (by rfl) (by rfl) (by omega) (by omega) (by omega) (by omega) rfl ?_
  refine jT_xaload_n (v := (4, 0)) (pcN := 56) jI_263_55 rfl rfl rfl ?_
  refine jT_xiload_n (v := (0, 8)) (pcN := 57) jI_263_56 rfl rfl rfl ?_
  refine jT_fR [] 22 (y := 264) (pcN := 60) (dC := 0) (bc1 := 0) (bc2 := 0) (c1 := 6) (c2 := 186) (as := [(0, 8)]) (asC := [(0, 8)]) (LN := [(0, (4, 0)), (1, (0, x1)), (2, (0, 8)), (3, (0, 0))]) (stN := [(4, 0)]) (hsC := []) (v := (1, 100000000)) (st2 := [(1, 100000000), (4, 0)]) (jA_264_1490 (d := 0)) (by rfl) (by rfl) (by decide +kernel) (by rfl) (by rfl) (by omega) (by omega) (by omega) (by omega) rfl ?_
  refine jT_xiload_n (v := (0, 0)) (pcN := 61) jI_263_60 rfl rfl rfl ?_
  refine jT_fA [0, 1, 2, 3, 4, 5, 6, 7, 8, 9, 10, 11, 12, 13, 14, 15, 16, 17, 18, 19, 20, 21] 22 (y := 265) (pcN := 64) (dC := 6) (bc1 := 6) (bc2 := 186) (c1 := 0) (c2 := 0) (as := [(4, 0), (1, 100000000), (0, 0)]) (asC := [(4, 0), (1, 100000000), (0, 0)]) (LN := [(0, (4, 0)), (1, (0, x1)), (2, (0, 8)), (3, (0, 0))]) (stN := []) (hsC := jpA_684) (ex := jpA_4341) (v := (1, 0)) (st2 := [(1, 0)]) (hs2 := jpA_4349) (jA_265_1492 (d := 0)) (by rfl) (by rfl) (by decide +kernel) (by rfl) (by rfl) (by omega) (by omega) (by omega) (by omega) rfl (by decide +kernel) ?_
  exact jT_ret rfl (by decide) (by show 22 ≤ 28; decide) (by omega) (by omega) ⟨rfl, rfl, rfl⟩
theorem jA_108_1494 {xs : List Int} {d : Nat} : jT xs (d + 3) 108 16 0 [(0, (4, 0)), (1, (4, 1)), (2, (0, 8)), (3, (0, 1))] [] jpA_4325 2 8 (fun k v hsN => k = 0 ∧ v = (1, 0) ∧ hsN = jpA_4325 ++ [(101, [], [0, 0, 0, 0, 0, 0]), (4, [(4, 16), (1, 1)], [])]) := by
  refine jT_advK 90 (pcN := 69) (LN := [(6, (0, 8)), (4, (1, 120000000000)), (0, (4, 0)), (1, (4, 1)), (2, (0, 8)), (3, (0, 1))]) (stN := [(1, 0), (1, 1), (1, (-1)), (4, 1), (4, 2)]) (hsN := jpA_4325) (c1 := 0) (s1 := 0) (c2 := 2) (s2 := 8) (by decide +kernel) ?_ (by omega) (by omega)
  refine jT_fA [1, 13] 16 (y := 10) (pcN := 72) (dC := 2) (bc1 := 2) (bc2 := 8) (c1 := 0) (c2 := 0) (as := [(4, 1), (1, (-1)), (1, 1), (1, 0)]) (asC := [(4, 0), (1, (-1)), (1, 1), (1, 0)]) (LN := [(6, (0, 8)), (4, (1, 120000000000)), (0, (4, 0)), (1, (4, 1)), (2, (0, 8)), (3, (0, 1))]) (stN := [(4, 2)]) (hsC := [(4, [(4, 1), (1, 1)], []), (101, [], [0, 0, 0, 0, 0, 0])]) (ex := [(101, [], [0, 0, 0, 0, 0, 0]), (4, [(4, 2), (1, 1)], [])]) (v := (4, 3)) (st2 := [(4, 17), (4, 2)]) (hs2 := jpA_4350) (jA_10_1294 (d := 0)) (by rfl) (by rfl) (by decide +kernel) (by rfl) (by rfl) (by omega) (by omega) (by omega) (by omega) rfl (by decide +kernel) ?_
  refine jT_advK 1 (pcN := 74) (LN := [(6, (0, 8)), (4, (1, 120000000000)), (0, (4, 0)), (1, (4, 1)), (2, (0, 8)), (3, (0, 1))]) (stN := [(1, 120000000000), (4, 17), (4, 2)]) (hsN := jpA_4350) (c1 := 0) (s1 := 0) (c2 := 0) (s2 := 0) (by decide +kernel) ?_ (by omega) (by omega)
  refine jT_fR [2, 17, 14, 15, 16] 18 (y := 44) (pcN := 77) (dC := 2) (bc1 := 0) (bc2 := 0) (c1 := 0) (c2 := 0) (as := [(4, 2), (4, 17), (1, 120000000000)]) (asC := [(4, 0), (4, 1), (1, 120000000000)]) (LN := [(6, (0, 8)), (4, (1, 120000000000)), (0, (4, 0)), (1, (4, 1)), (2, (0, 8)), (3, (0, 1))]) (stN := []) (hsC := jpA_626) (v := (1, 0)) (st2 := [(1, 0)]) (jA_44_1485 (d := 0)) (by rfl) (by rfl) (by decide +kernel) (by rfl) (by rfl) (by omega) (by omega) (by omega) (by omega) rfl ?_
  refine jT_advK 1 (pcN := 78) (LN := [(6, (0, 8)), (4, (1, 120000000000)), (0, (4, 0)), (1, (4, 1)), (2, (0, 8)), (3, (0, 1))]) (stN := [(1, 0)]) (hsN := jpA_4350) (c1 := 0) (s1 := 0) (c2 := 0) (s2 := 0) (by decide +kernel) ?_ (by omega) (by omega)
  exact jT_ret rfl (by decide) (by show 16 ≤ 18; decide) (by omega) (by omega) ⟨rfl, rfl, rfl⟩
theorem jA_140_1495 {xs : List Int} {d : Nat} {x1 : Int} (h_x1 : 0 ≤ x1 ∧ x1 ≤ 7) : jT xs (d + 4) 140 21 0 [(0, (4, 0)), (1, (0, x1)), (2, (0, 8)), (3, (0, 1))] [] jpA_3958 2 8 (fun k v hsN => k = 0 ∧ v = (1, 0) ∧ hsN = jpA_3958 ++ [(101, [], [0, 0, 0, 0, 0, 0]), (4, [(4, 21), (1, 1)], [])]) := by
  refine jT_xaload_n (v := (4, 0)) (pcN := 1) jI_140_0 rfl rfl rfl ?_
  refine jT_xiload_n (v := (0, x1)) (pcN := 2) jI_140_1 rfl rfl rfl ?_
  refine jT_xbipush (k := 8) (pcN := 4) jI_140_2 (by decide) rfl ?_
  refine jT_fR [0] 21 (y := 115) (pcN := 7) (dC := 0) (bc1 := 0) (bc2 := 0) (c1 := 2) (c2 := 8) (as := [(4, 0), (0, x1), (0, 8)]) (asC := [(4, 0), (0, x1), (0, 8)]) (LN := [(0, (4, 0)), (1, (0, x1)), (2, (0, 8)), (3, (0, 1))]) (stN := []) (hsC := [jgh]) (v := (9, 0)) (st2 := []) (jA_115_9 (d := 0) (by omega)) (by rfl) (by rfl) (by decide +kernel) (by rfl) (by rfl) (by omega) (by omega) (by omega) (by omega) rfl ?_
  refine jT_xaload_n (v := (4, 0)) (pcN := 8) jI_140_7 rfl rfl rfl ?_
  refine jT_xiload_n (v := (0, 8)) (pcN := 9) jI_140_8 rfl rfl rfl ?_
  refine jT_xiconst (k := 0) (pcN := 10) jI_140_9 rfl ?_
  refine jT_xbipush (k := 9) (pcN := 12) jI_140_10 (by decide) rfl ?_
  refine jT_fR [0] 21 (y := 116) (pcN := 15) (dC := 0) (bc1 := 0) (bc2 := 0) (c1 := 2) (c2 := 8) (as := [(4, 0), (0, 8), (0, 0), (0, 9)]) (asC := [(4, 0), (0, 8), (0, 0), (0, 9)]) (LN := [(0, (4, 0)), (1, (0, x1)), (2, (0, 8)), (3, (0, 1))]) (stN := []) (hsC := [jgh]) (v := (9, 0)) (st2 := []) (jA_116_1483 (d := 0)) (by rfl) (by rfl) (by decide +kernel) (by rfl) (by rfl) (by omega) (by omega) (by omega) (by omega) rfl ?_
  refine jT_xaload_n (v := (4, 0)) (pcN := 16) jI_140_15 rfl rfl rfl ?_
  refine jT_xiload_n (v := (0, 1)) (pcN := 17) jI_140_16 rfl rfl rfl ?_
  refine jT_xiconst (k := 0) (pcN := 18) jI_140_17 rfl ?_
  refine jT_xiconst (k := 2) (pcN := 19) jI_140_18 rfl ?_
  refine jT_fR [0] 21 (y := 116) (pcN := 22) (dC := 0) (bc1 := 0) (bc2 := 0) (c1 := 2) (c2 := 8) (as := [(4, 0), (0, 1), (0, 0), (0, 2)]) (asC := [(4, 0), (0, 1), (0, 0), (0, 2)]) (LN := [(0, (4, 0)), (1, (0, x1)), (2, (0, 8)), (3, (0, 1))]) (stN := []) (hsC := [jgh]) (v := (9, 0)) (st2 := []) (jA_116_1293 (d := 0)) (by rfl) (by rfl) (by decide +kernel) (by rfl) (by rfl) (by omega) (by omega) (by omega) (by omega) rfl ?_
  refine jT_xaload_n (v := (4, 0)) (pcN := 23) jI_140_22 rfl rfl rfl ?_
  refine jT_xaload_n (v := (4, 0)) (pcN := 24) jI_140_23 rfl rfl rfl ?_
  refine jT_xgetf (a := 0) (t := 1) (ci := 13) (fi := 11) (c := jzA_5) (v := (4, 11)) (pcN := 27) jI_140_24 rfl rfl rfl rfl rfl rfl rfl ?_
  refine jT_xiload_n (v := (0, x1)) (pcN := 28) jI_140_27 rfl rfl rfl ?_
  refine jT_fR [11, 14, 15, 16, 17, 18, 19] 21 (y := 57) (pcN := 31) (dC := 0) (bc1 := 0) (bc2 := 0) (c1 := 2) (c2 := 8) (as := [(4, 11), (0, x1)]) (asC := [(4, 0), (0, x1)]) (LN := [(0, (4, 0)), (1, (0, x1)), (2, (0, 8)), (3, (0, 1))]) (stN := [(4, 0)]) (hsC := jpA_47) (v := (4, 6)) (st2 := [(4, 19), (4, 0)]) (jA_57_108 (d := 0) (by omega)) (by rfl) (by rfl) (by decide +kernel) (by rfl) (by rfl) (by omega) (by omega) (by omega) (by omega) rfl ?_
  refine jT_xiload_n (v := (0, 8)) (pcN := 32) jI_140_31 rfl rfl rfl ?_
  refine jT_xiload_n (v := (0, 1)) (pcN := 33) jI_140_32 rfl rfl rfl ?_
  refine jT_fA [0, 19, 1, 2, 3, 4, 5, 6, 7, 8, 9, 10, 11, 20, 12, 13] 21 (y := 108) (pcN := 36) (dC := 3) (bc1 := 2) (bc2 := 8) (c1 := 0) (c2 := 0) (as := [(4, 0), (4, 19), (0, 8), (0, 1)]) (asC := [(4, 0), (4, 1), (0, 8), (0, 1)]) (LN := [(0, (4, 0)), (1, (0, x1)), (2, (0, 8)), (3, (0, 1))]) (stN := []) (hsC := jpA_4325) (ex := [(101, [], [0, 0, 0, 0, 0, 0]), (4, [(4, 16), (1, 1)], [])]) (v := (1, 0)) (st2 := [(1, 0)]) (hs2 := jpA_4351) (jA_108_1494 (d := 0)) (by rfl) (by rfl) (by decide +kernel) (by rfl) (by rfl) (by omega) (by omega) (by omega) (by omega) rfl (by decide +kernel) ?_
  exact jT_ret rfl (by decide) (by show 21 ≤ 23; decide) (by omega) (by omega) ⟨rfl, rfl, rfl⟩
theorem jA_347_1496 {xs : List Int} {d : Nat} {x1 : Int} (h_x1 : 0 ≤ x1 ∧ x1 ≤ 7) : jT xs (d + 5) 347 22 0 [(0, (4, 0)), (1, (0, x1)), (2, (0, 8)), (3, (0, 1)), (4, (4, 1))] [] jpA_4038 2 8 (fun k v hsN => k = 0 ∧ v = (0, 0) ∧ hsN = jpA_4038 ++ [(101, [], [0, 0, 0, 0, 0, 0]), (4, [(4, 22), (1, 1)], [])]) := by
  refine jT_xaload (v := (4, 1)) (pcN := 2) jI_347_0 rfl rfl rfl ?_
  refine jT_xiconst (k := 0) (pcN := 3) jI_347_2 rfl ?_
  refine jT_xaload_n (v := (4, 0)) (pcN := 4) jI_347_3 rfl rfl rfl ?_
  refine jT_xiload_n (v := (0, x1)) (pcN := 5) jI_347_4 rfl rfl rfl ?_
  refine jT_xiload_n (v := (0, 8)) (pcN := 6) jI_347_5 rfl rfl rfl ?_
  refine jT_xiload_n (v := (0, 1)) (pcN := 7) jI_347_6 rfl rfl rfl ?_
  refine jT_fA [0, 2, 3, 4, 5, 6, 7, 8, 9, 10, 11, 12, 13, 14, 15, 16, 17, 18, 19, 20, 21] 22 (y := 140) (pcN := 10) (dC := 4) (bc1 := 2) (bc2 := 8) (c1 := 0) (c2 := 0) (as := [(4, 0), (0, x1), (0, 8), (0, 1)]) (asC := [(4, 0), (0, x1), (0, 8), (0, 1)]) (LN := [(0, (4, 0)), (1, (0, x1)), (2, (0, 8)), (3, (0, 1)), (4, (4, 1))]) (stN := [(0, 0), (4, 1)]) (hsC := jpA_3958) (ex := [(101, [], [0, 0, 0, 0, 0, 0]), (4, [(4, 21), (1, 1)], [])]) (v := (1, 0)) (st2 := [(1, 0), (0, 0), (4, 1)]) (hs2 := jpA_4352) (jA_140_1495 (d := 0) (by omega)) (by rfl) (by rfl) (by decide +kernel) (by rfl) (by rfl) (by omega) (by omega) (by omega) (by omega) rfl (by decide +kernel) ?_
  refine jT_adv 1 (pcN := 11) (LN := [(0, (4, 0)), (1, (0, x1)), (2, (0, 8)), (3, (0, 1)), (4, (4, 1))]) (stN := []) (hsN := jpA_4352) (c1 := 0) (s1 := 0) (c2 := 0) (s2 := 0) (by exact rfl) ?_ (by omega) (by omega)
  refine jT_xgoto (pcN := 22) jI_347_11 rfl ?_
  refine jT_xiconst (k := 0) (pcN := 23) jI_347_22 rfl ?_
  exact jT_ret rfl (by decide) (by show 22 ≤ 24; decide) (by omega) (by omega) ⟨rfl, rfl, rfl⟩
theorem jA_265_1497 {xs : List Int} {d : Nat} : jT xs (d + 6) 265 22 0 [(0, (4, 0)), (1, (1, 100000000)), (3, (0, 1))] [] jpA_684 7 192 (fun k v hsN => k = 0 ∧ v = (1, 0) ∧ hsN = jpA_684 ++ jpA_4354) := by
  refine jT_advK 4 (pcN := 6) (LN := [(0, (4, 0)), (1, (1, 100000000)), (3, (0, 1))]) (stN := [(1, 120000000000), (4, 0)]) (hsN := jpA_684) (c1 := 0) (s1 := 0) (c2 := 7) (s2 := 192) (by decide +kernel) ?_ (by omega) (by omega)
  refine jT_fA [0, 1, 2, 3, 4, 5, 6, 7, 8, 9, 10, 11, 12, 13, 14, 15] 22 (y := 218) (pcN := 9) (dC := 0) (bc1 := 1) (bc2 := 6) (c1 := 6) (c2 := 186) (as := [(4, 0), (1, 120000000000)]) (asC := [(4, 0), (1, 120000000000)]) (LN := [(0, (4, 0)), (1, (1, 100000000)), (3, (0, 1))]) (stN := []) (hsC := jpA_147) (ex := [(101, [], [0, 0, 0, 0, 0, 0])]) (v := (4, 16)) (st2 := [(4, 22)]) (hs2 := jpA_3652) (jA_218_1491 (d := 0)) (by rfl) (by rfl) (by decide +kernel) (by rfl) (by rfl) (by omega) (by omega) (by omega) (by omega) rfl (by decide +kernel) ?_
  refine jT_advK 8 (pcN := 34) (LN := [(4, (4, 22)), (0, (4, 0)), (1, (1, 100000000)), (3, (0, 1))]) (stN := [(1, 1), (4, 22), (4, 0)]) (hsN := jpA_3652) (c1 := 0) (s1 := 0) (c2 := 6) (s2 := 186) (by decide +kernel) ?_ (by omega) (by omega)
  refine jT_fA [0, 22, 1, 2, 3, 4, 5, 6, 7, 8, 9, 10, 11, 12, 13, 14, 15, 16, 17, 18, 19, 20, 21] 23 (y := 210) (pcN := 37) (dC := 5) (bc1 := 5) (bc2 := 180) (c1 := 1) (c2 := 6) (as := [(4, 0), (4, 22), (1, 1)]) (asC := [(4, 0), (4, 1), (1, 1)]) (LN := [(4, (4, 22)), (0, (4, 0)), (1, (1, 100000000)), (3, (0, 1))]) (stN := []) (hsC := jpA_987) (ex := jpA_683) (v := (1, 0)) (st2 := [(1, 0)]) (hs2 := jpA_4340) (jA_210_1290 (d := 0)) (by rfl) (by rfl) (by decide +kernel) (by rfl) (by rfl) (by omega) (by omega) (by omega) (by omega) rfl (by decide +kernel) ?_
  refine jT_advK 9 (pcN := 53) (LN := [(5, (1, 0)), (4, (4, 22)), (0, (4, 0)), (1, (1, 100000000)), (3, (0, 1))]) (stN := [(1, 0), (4, 22), (4, 0)]) (hsN := jpA_4340) (c1 := 0) (s1 := 0) (c2 := 1) (s2 := 6) (by decide +kernel) ?_ (by omega) (by omega)
  refine jT_fA [0, 22, 1, 2, 3, 4, 5, 6, 7, 8, 9, 10, 11, 12, 13, 14, 15] 28 (y := 212) (pcN := 56) (dC := 2) (bc1 := 1) (bc2 := 6) (c1 := 0) (c2 := 0) (as := [(4, 0), (4, 22), (1, 0)]) (asC := [(4, 0), (4, 1), (1, 0)]) (LN := [(5, (1, 0)), (4, (4, 22)), (0, (4, 0)), (1, (1, 100000000)), (3, (0, 1))]) (stN := []) (hsC := jpA_4335) (ex := [(101, [], [0, 0, 0, 0, 0, 0])]) (v := (0, 0)) (st2 := [(0, 0)]) (hs2 := jpA_4353) (jA_212_1288 (d := 0)) (by rfl) (by rfl) (by decide +kernel) (by rfl) (by rfl) (by omega) (by omega) (by omega) (by omega) rfl (by decide +kernel) ?_
  refine jT_advK 3 (pcN := 68) (LN := [(5, (1, 0)), (4, (4, 22)), (0, (4, 0)), (1, (1, 100000000)), (3, (0, 1))]) (stN := [(1, 0)]) (hsN := jpA_4353) (c1 := 0) (s1 := 0) (c2 := 0) (s2 := 0) (by decide +kernel) ?_ (by omega) (by omega)
  exact jT_ret rfl (by decide) (by show 22 ≤ 29; decide) (by omega) (by omega) ⟨rfl, rfl, rfl⟩
theorem jA_263_1498 {xs : List Int} {d : Nat} {x1 : Int} (h_x1 : 0 ≤ x1 ∧ x1 ≤ 7) : jT xs (d + 7) 263 22 0 [(0, (4, 0)), (1, (0, x1)), (2, (0, 8)), (3, (0, 1))] [] jpA_1695 7 192 (fun k v hsN => k = 0 ∧ v = (1, 0) ∧ hsN = jpA_1695 ++ jpA_4354) := by
  refine jT_xaload_n (v := (4, 0)) (pcN := 1) jI_263_0 rfl rfl rfl ?_
  refine jT_xiload_n (v := (0, x1)) (pcN := 2) jI_263_1 rfl rfl rfl ?_
  refine jT_fR [] 22 (y := 188) (pcN := 5) (dC := 1) (bc1 := 0) (bc2 := 0) (c1 := 7) (c2 := 192) (as := [(0, x1)]) (asC := [(0, x1)]) (LN := [(0, (4, 0)), (1, (0, x1)), (2, (0, 8)), (3, (0, 1))]) (stN := [(4, 0)]) (hsC := []) (v := (0, 1)) (st2 := [(0, 1), (4, 0)]) (jA_188_13 (d := 0) (by omega)) (by rfl) (by rfl) (by decide +kernel) (by rfl) (by rfl) (by omega) (by omega) (by omega) (by omega) rfl ?_
  refine jT_fR [0, 1, 2, 3, 4, 5, 6, 7, 8, 9, 10, 11, 12, 13, 14, 15] 22 (y := 190) (pcN := 8) (dC := 1) (bc1 := 0) (bc2 := 0) (c1 := 7) (c2 := 192) (as := [(4, 0), (0, 1)]) (asC := [(4, 0), (0, 1)]) (LN := [(0, (4, 0)), (1, (0, x1)), (2, (0, 8)), (3, (0, 1))]) (stN := []) (hsC := jpA_22) (v := (0, 0)) (st2 := [(0, 0)]) (jA_190_39 (d := 0)) (by rfl) (by rfl) (by decide +kernel) (by rfl) (by rfl) (by omega) (by omega) (by omega) (by omega) rfl ?_
  refine jT_xifF (t := 48) (pcN := 11) jI_263_8 rfl (by decide +kernel) rfl rfl ?_
  refine jT_xaload_n (v := (4, 0)) (pcN := 12) jI_263_11 rfl rfl rfl ?_
  refine jT_xiload_n (v := (0, 8)) (pcN := 13) jI_263_12 rfl rfl rfl ?_
  refine jT_xi2l (x := 8) (z := 8) (pcN := 14) jI_263_13 rfl (by decide +kernel) rfl ?_
  refine jT_xlconst (z := 0) (pcN := 15) jI_263_14 rfl rfl ?_
  refine jT_adv 1 (pcN := 18) (LN := [(0, (4, 0)), (1, (0, x1)), (2, (0, 8)), (3, (0, 1))]) (stN := [(1, 9), (1, 0), (1, 8), (4, 0)]) (hsN := jpA_1695) (c1 := 0) (s1 := 0) (c2 := 7) (s2 := 192) (by exact rfl) ?_ (by omega) (by omega)
  refine jT_fR [] 22 (y := 189) (pcN := 21) (dC := 0) (bc1 := 0) (bc2 := 0) (c1 := 7) (c2 := 192) (as := [(1, 8), (1, 0), (1, 9)]) (asC := [(1, 8), (1, 0), (1, 9)]) (LN := [(0, (4, 0)), (1, (0, x1)), (2, (0, 8)), (3, (0, 1))]) (stN := [(4, 0)]) (hsC := []) (v := (0, 1)) (st2 := [(0, 1), (4, 0)]) (jA_189_1489 (d := 0)) (by rfl) (by rfl) (by decide +kernel) (by rfl) (by rfl) (by omega) (by omega) (by omega) (by omega) rfl ?_
  refine jT_xifF (t := 40) (pcN := 24) jI_263_21 rfl (by decide +kernel) rfl rfl ?_
  refine jT_xiload_n (v := (0, 1)) (pcN := 25) jI_263_24 rfl rfl rfl ?_
  refine jT_xi2l (x := 1) (z := 1) (pcN := 26) jI_263_25 rfl (by decide +kernel) rfl ?_
  refine jT_xlconst (z := 0) (pcN := 27) jI_263_26 rfl rfl ?_
  refine jT_adv 1 (pcN := 30) (LN := [(0, (4, 0)), (1, (0, x1)), (2, (0, 8)), (3, (0, 1))]) (stN := [(1, 2), (1, 0), (1, 1), (4, 0)]) (hsN := jpA_1695) (c1 := 0) (s1 := 0) (c2 := 7) (s2 := 192) (by exact rfl) ?_ (by omega) (by omega)
  refine jT_fR [] 22 (y := 189) (pcN := 33) (dC := 0) (bc1 := 0) (bc2 := 0) (c1 := 7) (c2 := 192) (as := [(1, 1), (1, 0), (1, 2)]) (asC := [(1, 1), (1, 0), (1, 2)]) (LN := [(0, (4, 0)), (1, (0, x1)), (2, (0, 8)), (3, (0, 1))]) (stN := [(4, 0)]) (hsC := []) (v := (0, 1)) (st2 := [(0, 1), (4, 0)]) (jA_189_1298 (d := 0)) (by rfl) (by rfl) (by decide +kernel) (by rfl) (by rfl) (by omega) (by omega) (by omega) (by omega) rfl ?_
  refine jT_xifF (t := 40) (pcN := 36) jI_263_33 rfl (by decide +kernel) rfl rfl ?_
  refine jT_xiconst (k := 1) (pcN := 37) jI_263_36 rfl ?_
  refine jT_xgoto (pcN := 41) jI_263_37 rfl ?_
  refine jT_xiconst (k := 2) (pcN := 42) jI_263_41 rfl ?_
  refine jT_fR [0] 22 (y := 191) (pcN := 45) (dC := 0) (bc1 := 0) (bc2 := 0) (c1 := 7) (c2 := 192) (as := [(4, 0), (0, 1), (0, 2)]) (asC := [(4, 0), (0, 1), (0, 2)]) (LN := [(0, (4, 0)), (1, (0, x1)), (2, (0, 8)), (3, (0, 1))]) (stN := []) (hsC := [jgh]) (v := (0, 0)) (st2 := [(0, 0)]) (jA_191_49 (d := 0)) (by rfl) (by rfl) (by decide +kernel) (by rfl) (by rfl) (by omega) (by omega) (by omega) (by omega) rfl ?_
  refine jT_xifT (pcN := 50) jI_263_45 rfl (by decide +kernel) rfl ?_
  refine jT_xaload_n (v := (4, 0)) (pcN := 51) jI_263_50 rfl rfl rfl ?_
  refine jT_xiload_n (v := (0, x1)) (pcN := 52) jI_263_51 rfl rfl rfl ?_
  refine jT_fR [0, 1, 2, 3, 4, 5, 6, 7, 8, 9, 10, 11, 12, 13, 14, 15] 22 (y := 202) (pcN := 55) (dC := 1) (bc1 := 0) (bc2 := 0) (c1 := 7) (c2 := 192) (as := [(4, 0), (0, x1)]) (asC := [(4, 0), (0, x1)]) (LN := [(0, (4, 0)), (1, (0, x1)), (2, (0, 8)), (3, (0, 1))]) (stN := []) (hsC := jpA_130) (v := (9, 0)) (st2 := []) (jA_202_115 (d := 0) (by omega)) (by rfl) (by rfl) (by decide +kernel) (by rfl) (by rfl) (by omega) (by omega) (by omega) (by omega) rfl ?_
  refine jT_xaload_n (v := (4, 0)) (pcN := 56) jI_263_55 rfl rfl rfl ?_
  refine jT_xiload_n (v := (0, 8)) (pcN := 57) jI_263_56 rfl rfl rfl ?_
  refine jT_fR [] 22 (y := 264) (pcN := 60) (dC := 0) (bc1 := 0) (bc2 := 0) (c1 := 7) (c2 := 192) (as := [(0, 8)]) (asC := [(0, 8)]) (LN := [(0, (4, 0)), (1, (0, x1)), (2, (0, 8)), (3, (0, 1))]) (stN := [(4, 0)]) (hsC := []) (v := (1, 100000000)) (st2 := [(1, 100000000), (4, 0)]) (jA_264_1490 (d := 0)) (by rfl) (by rfl) (by decide +kernel) (by rfl) (by rfl) (by omega) (by omega) (by omega) (by omega) rfl ?_
  refine jT_xiload_n (v := (0, 1)) (pcN := 61) jI_263_60 rfl rfl rfl ?_
  refine jT_fA [0, 1, 2, 3, 4, 5, 6, 7, 8, 9, 10, 11, 12, 13, 14, 15, 16, 17, 18, 19, 20, 21] 22 (y := 265) (pcN := 64) (dC := 6) (bc1 := 7) (bc2 := 192) (c1 := 0) (c2 := 0) (as := [(4, 0), (1, 100000000), (0, 1)]) (asC := [(4, 0), (1, 100000000), (0, 1)]) (LN := [(0, (4, 0)), (1, (0, x1)), (2, (0, 8)), (3, (0, 1))]) (stN := []) (hsC := jpA_684) (ex := jpA_4354) (v := (1, 0)) (st2 := [(1, 0)]) (hs2 := jpA_4355) (jA_265_1497 (d := 0)) (by rfl) (by rfl) (by decide +kernel) (by rfl) (by rfl) (by omega) (by omega) (by omega) (by omega) rfl (by decide +kernel) ?_
  exact jT_ret rfl (by decide) (by show 22 ≤ 29; decide) (by omega) (by omega) ⟨rfl, rfl, rfl⟩
theorem jA_45_1499 {xs : List Int} {d : Nat} : jT xs (d + 1) 45 4 0 [(0, (4, 0)), (1, (4, 1)), (2, (1, 1)), (4, (1, 240000000000))] [] jpA_625 0 0 (fun k v hsN => k = 0 ∧ v = (1, 0) ∧ hsN = jpA_625 ++ []) := by
  refine jT_advK 10 (pcN := 17) (LN := [(0, (4, 0)), (1, (4, 1)), (2, (1, 1)), (4, (1, 240000000000))]) (stN := [(4, 1), (4, 0)]) (hsN := jpA_625) (c1 := 0) (s1 := 0) (c2 := 0) (s2 := 0) (by decide +kernel) ?_ (by omega) (by omega)
  refine jT_fR [0, 1] 4 (y := 39) (pcN := 20) (dC := 0) (bc1 := 0) (bc2 := 0) (c1 := 0) (c2 := 0) (as := [(4, 0), (4, 1)]) (asC := [(4, 0), (4, 1)]) (LN := [(0, (4, 0)), (1, (4, 1)), (2, (1, 1)), (4, (1, 240000000000))]) (stN := []) (hsC := [jgh, (101, [], [0, 0, 0, 0, 0, 0])]) (v := (1, 0)) (st2 := [(1, 0)]) (jA_39_144 (d := 0)) (by rfl) (by rfl) (by decide +kernel) (by rfl) (by rfl) (by omega) (by omega) (by omega) (by omega) rfl ?_
  refine jT_advK 11 (pcN := 36) (LN := [(6, (1, 0)), (0, (4, 0)), (1, (4, 1)), (2, (1, 1)), (4, (1, 240000000000))]) (stN := [(1, 1), (1, 0)]) (hsN := jpA_625) (c1 := 0) (s1 := 0) (c2 := 0) (s2 := 0) (by decide +kernel) ?_ (by omega) (by omega)
  refine jT_fR [] 4 (y := 373) (pcN := 39) (dC := 0) (bc1 := 0) (bc2 := 0) (c1 := 0) (c2 := 0) (as := [(1, 0), (1, 1)]) (asC := [(1, 0), (1, 1)]) (LN := [(6, (1, 0)), (0, (4, 0)), (1, (4, 1)), (2, (1, 1)), (4, (1, 240000000000))]) (stN := []) (hsC := []) (v := (1, 0)) (st2 := [(1, 0)]) (jA_373_145 (d := 0)) (by rfl) (by rfl) (by decide +kernel) (by rfl) (by rfl) (by omega) (by omega) (by omega) (by omega) rfl ?_
  exact jT_ret rfl (by decide) (by show 4 ≤ 4; decide) (by omega) (by omega) ⟨rfl, rfl, rfl⟩
theorem jA_44_1500 {xs : List Int} {d : Nat} : jT xs (d + 2) 44 5 0 [(0, (4, 0)), (1, (4, 1)), (2, (1, 240000000000))] [] jpA_626 0 0 (fun k v hsN => k = 0 ∧ v = (1, 0) ∧ hsN = jpA_626 ++ []) := by
  refine jT_advK 6 (pcN := 10) (LN := [(0, (4, 0)), (1, (4, 1)), (2, (1, 240000000000))]) (stN := [(1, 240000000000), (1, 1), (4, 4), (4, 0)]) (hsN := jpA_626) (c1 := 0) (s1 := 0) (c2 := 0) (s2 := 0) (by decide +kernel) ?_ (by omega) (by omega)
  refine jT_fR [0, 4, 2, 3] 5 (y := 45) (pcN := 13) (dC := 1) (bc1 := 0) (bc2 := 0) (c1 := 0) (c2 := 0) (as := [(4, 0), (4, 4), (1, 1), (1, 240000000000)]) (asC := [(4, 0), (4, 1), (1, 1), (1, 240000000000)]) (LN := [(0, (4, 0)), (1, (4, 1)), (2, (1, 240000000000))]) (stN := []) (hsC := jpA_625) (v := (1, 0)) (st2 := [(1, 0)]) (jA_45_1499 (d := 0)) (by rfl) (by rfl) (by decide +kernel) (by rfl) (by rfl) (by omega) (by omega) (by omega) (by omega) rfl ?_
  exact jT_ret rfl (by decide) (by show 5 ≤ 5; decide) (by omega) (by omega) ⟨rfl, rfl, rfl⟩
theorem jA_43_1501 {xs : List Int} {d : Nat} : jT xs (d + 3) 43 5 0 [(0, (4, 0)), (1, (4, 1)), (2, (1, 120000000000))] [] jpA_626 0 0 (fun k v hsN => k = 0 ∧ v = (1, 0) ∧ hsN = jpA_626 ++ []) := by
  refine jT_advK 5 (pcN := 7) (LN := [(0, (4, 0)), (1, (4, 1)), (2, (1, 120000000000))]) (stN := [(1, 240000000000), (4, 1), (4, 0)]) (hsN := jpA_626) (c1 := 0) (s1 := 0) (c2 := 0) (s2 := 0) (by decide +kernel) ?_ (by omega) (by omega)
  refine jT_fR [0, 1, 2, 3, 4] 5 (y := 44) (pcN := 10) (dC := 2) (bc1 := 0) (bc2 := 0) (c1 := 0) (c2 := 0) (as := [(4, 0), (4, 1), (1, 240000000000)]) (asC := [(4, 0), (4, 1), (1, 240000000000)]) (LN := [(0, (4, 0)), (1, (4, 1)), (2, (1, 120000000000))]) (stN := []) (hsC := jpA_626) (v := (1, 0)) (st2 := [(1, 0)]) (jA_44_1500 (d := 0)) (by rfl) (by rfl) (by decide +kernel) (by rfl) (by rfl) (by omega) (by omega) (by omega) (by omega) rfl ?_
  refine jT_advK 3 (pcN := 13) (LN := [(0, (4, 0)), (1, (4, 1)), (2, (1, 120000000000))]) (stN := [(0, 2), (1, 1)]) (hsN := jpA_626) (c1 := 0) (s1 := 0) (c2 := 0) (s2 := 0) (by decide +kernel) ?_ (by omega) (by omega)
  refine jT_fR [] 5 (y := 374) (pcN := 16) (dC := 1) (bc1 := 0) (bc2 := 0) (c1 := 0) (c2 := 0) (as := [(1, 1), (0, 2)]) (asC := [(1, 1), (0, 2)]) (LN := [(0, (4, 0)), (1, (4, 1)), (2, (1, 120000000000))]) (stN := []) (hsC := []) (v := (1, 0)) (st2 := [(1, 0)]) (jA_374_178 (d := 0)) (by rfl) (by rfl) (by decide +kernel) (by rfl) (by rfl) (by omega) (by omega) (by omega) (by omega) rfl ?_
  exact jT_ret rfl (by decide) (by show 5 ≤ 5; decide) (by omega) (by omega) ⟨rfl, rfl, rfl⟩
theorem jA_108_1502 {xs : List Int} {d : Nat} : jT xs (d + 4) 108 16 0 [(0, (4, 0)), (1, (4, 1)), (2, (0, 8)), (3, (0, 2))] [] jpA_4325 0 0 (fun k v hsN => k = 0 ∧ v = (1, 0) ∧ hsN = jpA_4325 ++ []) := by
  refine jT_advK 86 (pcN := 40) (LN := [(6, (0, 8)), (4, (1, 120000000000)), (0, (4, 0)), (1, (4, 1)), (2, (0, 8)), (3, (0, 2))]) (stN := [(1, 120000000000), (4, 1), (4, 2)]) (hsN := jpA_4325) (c1 := 0) (s1 := 0) (c2 := 0) (s2 := 0) (by decide +kernel) ?_ (by omega) (by omega)
  refine jT_fR [2, 1, 14, 15, 13] 16 (y := 43) (pcN := 43) (dC := 3) (bc1 := 0) (bc2 := 0) (c1 := 0) (c2 := 0) (as := [(4, 2), (4, 1), (1, 120000000000)]) (asC := [(4, 0), (4, 1), (1, 120000000000)]) (LN := [(6, (0, 8)), (4, (1, 120000000000)), (0, (4, 0)), (1, (4, 1)), (2, (0, 8)), (3, (0, 2))]) (stN := []) (hsC := jpA_626) (v := (1, 0)) (st2 := [(1, 0)]) (jA_43_1501 (d := 0)) (by rfl) (by rfl) (by decide +kernel) (by rfl) (by rfl) (by omega) (by omega) (by omega) (by omega) rfl ?_
  exact jT_ret rfl (by decide) (by show 16 ≤ 16; decide) (by omega) (by omega) ⟨rfl, rfl, rfl⟩
theorem jA_140_1503 {xs : List Int} {d : Nat} {x1 : Int} (h_x1 : 0 ≤ x1 ∧ x1 ≤ 7) : jT xs (d + 5) 140 21 0 [(0, (4, 0)), (1, (0, x1)), (2, (0, 8)), (3, (0, 2))] [] jpA_3958 0 0 (fun k v hsN => k = 0 ∧ v = (1, 0) ∧ hsN = jpA_3958 ++ []) := by
  refine jT_xaload_n (v := (4, 0)) (pcN := 1) jI_140_0 rfl rfl rfl ?_
  refine jT_xiload_n (v := (0, x1)) (pcN := 2) jI_140_1 rfl rfl rfl ?_
  refine jT_xbipush (k := 8) (pcN := 4) jI_140_2 (by decide) rfl ?_
  refine jT_fR [0] 21 (y := 115) (pcN := 7) (dC := 0) (bc1 := 0) (bc2 := 0) (c1 := 0) (c2 := 0) (as := [(4, 0), (0, x1), (0, 8)]) (asC := [(4, 0), (0, x1), (0, 8)]) (LN := [(0, (4, 0)), (1, (0, x1)), (2, (0, 8)), (3, (0, 2))]) (stN := []) (hsC := [jgh]) (v := (9, 0)) (st2 := []) (jA_115_9 (d := 0) (by omega)) (by rfl) (by rfl) (by decide +kernel) (by rfl) (by rfl) (by omega) (by omega) (by omega) (by omega) rfl ?_
  refine jT_xaload_n (v := (4, 0)) (pcN := 8) jI_140_7 rfl rfl rfl ?_
  refine jT_xiload_n (v := (0, 8)) (pcN := 9) jI_140_8 rfl rfl rfl ?_
  refine jT_xiconst (k := 0) (pcN := 10) jI_140_9 rfl ?_
  refine jT_xbipush (k := 9) (pcN := 12) jI_140_10 (by decide) rfl ?_
  refine jT_fR [0] 21 (y := 116) (pcN := 15) (dC := 0) (bc1 := 0) (bc2 := 0) (c1 := 0) (c2 := 0) (as := [(4, 0), (0, 8), (0, 0), (0, 9)]) (asC := [(4, 0), (0, 8), (0, 0), (0, 9)]) (LN := [(0, (4, 0)), (1, (0, x1)), (2, (0, 8)), (3, (0, 2))]) (stN := []) (hsC := [jgh]) (v := (9, 0)) (st2 := []) (jA_116_1483 (d := 0)) (by rfl) (by rfl) (by decide +kernel) (by rfl) (by rfl) (by omega) (by omega) (by omega) (by omega) rfl ?_
  refine jT_xaload_n (v := (4, 0)) (pcN := 16) jI_140_15 rfl rfl rfl ?_
  refine jT_xiload_n (v := (0, 2)) (pcN := 17) jI_140_16 rfl rfl rfl ?_
  refine jT_xiconst (k := 0) (pcN := 18) jI_140_17 rfl ?_
  refine jT_xiconst (k := 2) (pcN := 19) jI_140_18 rfl ?_
  refine jT_fR [0] 21 (y := 116) (pcN := 22) (dC := 0) (bc1 := 0) (bc2 := 0) (c1 := 0) (c2 := 0) (as := [(4, 0), (0, 2), (0, 0), (0, 2)]) (asC := [(4, 0), (0, 2), (0, 0), (0, 2)]) (LN := [(0, (4, 0)), (1, (0, x1)), (2, (0, 8)), (3, (0, 2))]) (stN := []) (hsC := [jgh]) (v := (9, 0)) (st2 := []) (jA_116_1301 (d := 0)) (by rfl) (by rfl) (by decide +kernel) (by rfl) (by rfl) (by omega) (by omega) (by omega) (by omega) rfl ?_
  refine jT_xaload_n (v := (4, 0)) (pcN := 23) jI_140_22 rfl rfl rfl ?_
  refine jT_xaload_n (v := (4, 0)) (pcN := 24) jI_140_23 rfl rfl rfl ?_
  refine jT_xgetf (a := 0) (t := 1) (ci := 13) (fi := 11) (c := jzA_5) (v := (4, 11)) (pcN := 27) jI_140_24 rfl rfl rfl rfl rfl rfl rfl ?_
  refine jT_xiload_n (v := (0, x1)) (pcN := 28) jI_140_27 rfl rfl rfl ?_
  refine jT_fR [11, 14, 15, 16, 17, 18, 19] 21 (y := 57) (pcN := 31) (dC := 0) (bc1 := 0) (bc2 := 0) (c1 := 0) (c2 := 0) (as := [(4, 11), (0, x1)]) (asC := [(4, 0), (0, x1)]) (LN := [(0, (4, 0)), (1, (0, x1)), (2, (0, 8)), (3, (0, 2))]) (stN := [(4, 0)]) (hsC := jpA_47) (v := (4, 6)) (st2 := [(4, 19), (4, 0)]) (jA_57_108 (d := 0) (by omega)) (by rfl) (by rfl) (by decide +kernel) (by rfl) (by rfl) (by omega) (by omega) (by omega) (by omega) rfl ?_
  refine jT_xiload_n (v := (0, 8)) (pcN := 32) jI_140_31 rfl rfl rfl ?_
  refine jT_xiload_n (v := (0, 2)) (pcN := 33) jI_140_32 rfl rfl rfl ?_
  refine jT_fR [0, 19, 1, 2, 3, 4, 5, 6, 7, 8, 9, 10, 11, 20, 12, 13] 21 (y := 108) (pcN := 36) (dC := 4) (bc1 := 0) (bc2 := 0) (c1 := 0) (c2 := 0) (as := [(4, 0), (4, 19), (0, 8), (0, 2)]) (asC := [(4, 0), (4, 1), (0, 8), (0, 2)]) (LN := [(0, (4, 0)), (1, (0, x1)), (2, (0, 8)), (3, (0, 2))]) (stN := []) (hsC := jpA_4325) (v := (1, 0)) (st2 := [(1, 0)]) (jA_108_1502 (d := 0)) (by rfl) (by rfl) (by decide +kernel) (by rfl) (by rfl) (by omega) (by omega) (by omega) (by omega) rfl ?_
  exact jT_ret rfl (by decide) (by show 21 ≤ 21; decide) (by omega) (by omega) ⟨rfl, rfl, rfl⟩
theorem jA_347_1504 {xs : List Int} {d : Nat} {x1 : Int} (h_x1 : 0 ≤ x1 ∧ x1 ≤ 7) : jT xs (d + 6) 347 22 0 [(0, (4, 0)), (1, (0, x1)), (2, (0, 8)), (3, (0, 2)), (4, (4, 1))] [] jpA_4038 0 0 (fun k v hsN => k = 0 ∧ v = (0, 0) ∧ hsN = jpA_4038 ++ []) := by
  refine jT_xaload (v := (4, 1)) (pcN := 2) jI_347_0 rfl rfl rfl ?_
  refine jT_xiconst (k := 0) (pcN := 3) jI_347_2 rfl ?_
  refine jT_xaload_n (v := (4, 0)) (pcN := 4) jI_347_3 rfl rfl rfl ?_
  refine jT_xiload_n (v := (0, x1)) (pcN := 5) jI_347_4 rfl rfl rfl ?_
  refine jT_xiload_n (v := (0, 8)) (pcN := 6) jI_347_5 rfl rfl rfl ?_
  refine jT_xiload_n (v := (0, 2)) (pcN := 7) jI_347_6 rfl rfl rfl ?_
  refine jT_fR [0, 2, 3, 4, 5, 6, 7, 8, 9, 10, 11, 12, 13, 14, 15, 16, 17, 18, 19, 20, 21] 22 (y := 140) (pcN := 10) (dC := 5) (bc1 := 0) (bc2 := 0) (c1 := 0) (c2 := 0) (as := [(4, 0), (0, x1), (0, 8), (0, 2)]) (asC := [(4, 0), (0, x1), (0, 8), (0, 2)]) (LN := [(0, (4, 0)), (1, (0, x1)), (2, (0, 8)), (3, (0, 2)), (4, (4, 1))]) (stN := [(0, 0), (4, 1)]) (hsC := jpA_3958) (v := (1, 0)) (st2 := [(1, 0), (0, 0), (4, 1)]) (jA_140_1503 (d := 0) (by omega)) (by rfl) (by rfl) (by decide +kernel) (by rfl) (by rfl) (by omega) (by omega) (by omega) (by omega) rfl ?_
  refine jT_adv 1 (pcN := 11) (LN := [(0, (4, 0)), (1, (0, x1)), (2, (0, 8)), (3, (0, 2)), (4, (4, 1))]) (stN := []) (hsN := jpA_4038) (c1 := 0) (s1 := 0) (c2 := 0) (s2 := 0) (by exact rfl) ?_ (by omega) (by omega)
  refine jT_xgoto (pcN := 22) jI_347_11 rfl ?_
  refine jT_xiconst (k := 0) (pcN := 23) jI_347_22 rfl ?_
  exact jT_ret rfl (by decide) (by show 22 ≤ 22; decide) (by omega) (by omega) ⟨rfl, rfl, rfl⟩
theorem jA_265_1505 {xs : List Int} {d : Nat} : jT xs (d + 7) 265 22 0 [(0, (4, 0)), (1, (1, 100000000)), (3, (0, 2))] [] jpA_684 10 360 (fun k v hsN => k = 0 ∧ v = (1, 0) ∧ hsN = jpA_684 ++ jpA_3654) := by
  refine jT_advK 4 (pcN := 6) (LN := [(0, (4, 0)), (1, (1, 100000000)), (3, (0, 2))]) (stN := [(1, 120000000000), (4, 0)]) (hsN := jpA_684) (c1 := 0) (s1 := 0) (c2 := 10) (s2 := 360) (by decide +kernel) ?_ (by omega) (by omega)
  refine jT_fA [0, 1, 2, 3, 4, 5, 6, 7, 8, 9, 10, 11, 12, 13, 14, 15] 22 (y := 218) (pcN := 9) (dC := 0) (bc1 := 1) (bc2 := 6) (c1 := 9) (c2 := 354) (as := [(4, 0), (1, 120000000000)]) (asC := [(4, 0), (1, 120000000000)]) (LN := [(0, (4, 0)), (1, (1, 100000000)), (3, (0, 2))]) (stN := []) (hsC := jpA_147) (ex := [(101, [], [0, 0, 0, 0, 0, 0])]) (v := (4, 16)) (st2 := [(4, 22)]) (hs2 := jpA_3652) (jA_218_1491 (d := 0)) (by rfl) (by rfl) (by decide +kernel) (by rfl) (by rfl) (by omega) (by omega) (by omega) (by omega) rfl (by decide +kernel) ?_
  refine jT_advK 8 (pcN := 23) (LN := [(4, (4, 22)), (0, (4, 0)), (1, (1, 100000000)), (3, (0, 2))]) (stN := [(1, 1), (4, 22), (4, 0)]) (hsN := jpA_3652) (c1 := 0) (s1 := 0) (c2 := 9) (s2 := 354) (by decide +kernel) ?_ (by omega) (by omega)
  refine jT_fA [0, 22, 1, 2, 3, 4, 5, 6, 7, 8, 9, 10, 11, 12, 13, 14, 15, 16, 17, 18, 19, 20, 21] 23 (y := 216) (pcN := 26) (dC := 6) (bc1 := 9) (bc2 := 354) (c1 := 0) (c2 := 0) (as := [(4, 0), (4, 22), (1, 1)]) (asC := [(4, 0), (4, 1), (1, 1)]) (LN := [(4, (4, 22)), (0, (4, 0)), (1, (1, 100000000)), (3, (0, 2))]) (stN := []) (hsC := jpA_987) (ex := jpA_839) (v := (1, 0)) (st2 := [(1, 0)]) (hs2 := jpA_3653) (jA_216_228 (d := 0)) (by rfl) (by rfl) (by decide +kernel) (by rfl) (by rfl) (by omega) (by omega) (by omega) (by omega) rfl (by decide +kernel) ?_
  exact jT_ret rfl (by decide) (by show 22 ≤ 32; decide) (by omega) (by omega) ⟨rfl, rfl, rfl⟩
theorem jA_263_1506 {xs : List Int} {d : Nat} {x1 : Int} (h_x1 : 0 ≤ x1 ∧ x1 ≤ 7) : jT xs (d + 8) 263 22 0 [(0, (4, 0)), (1, (0, x1)), (2, (0, 8)), (3, (0, 2))] [] jpA_1695 10 360 (fun k v hsN => k = 0 ∧ v = (1, 0) ∧ hsN = jpA_1695 ++ jpA_3654) := by
  refine jT_xaload_n (v := (4, 0)) (pcN := 1) jI_263_0 rfl rfl rfl ?_
  refine jT_xiload_n (v := (0, x1)) (pcN := 2) jI_263_1 rfl rfl rfl ?_
  refine jT_fR [] 22 (y := 188) (pcN := 5) (dC := 1) (bc1 := 0) (bc2 := 0) (c1 := 10) (c2 := 360) (as := [(0, x1)]) (asC := [(0, x1)]) (LN := [(0, (4, 0)), (1, (0, x1)), (2, (0, 8)), (3, (0, 2))]) (stN := [(4, 0)]) (hsC := []) (v := (0, 1)) (st2 := [(0, 1), (4, 0)]) (jA_188_13 (d := 0) (by omega)) (by rfl) (by rfl) (by decide +kernel) (by rfl) (by rfl) (by omega) (by omega) (by omega) (by omega) rfl ?_
  refine jT_fR [0, 1, 2, 3, 4, 5, 6, 7, 8, 9, 10, 11, 12, 13, 14, 15] 22 (y := 190) (pcN := 8) (dC := 1) (bc1 := 0) (bc2 := 0) (c1 := 10) (c2 := 360) (as := [(4, 0), (0, 1)]) (asC := [(4, 0), (0, 1)]) (LN := [(0, (4, 0)), (1, (0, x1)), (2, (0, 8)), (3, (0, 2))]) (stN := []) (hsC := jpA_22) (v := (0, 0)) (st2 := [(0, 0)]) (jA_190_39 (d := 0)) (by rfl) (by rfl) (by decide +kernel) (by rfl) (by rfl) (by omega) (by omega) (by omega) (by omega) rfl ?_
  refine jT_xifF (t := 48) (pcN := 11) jI_263_8 rfl (by decide +kernel) rfl rfl ?_
  refine jT_xaload_n (v := (4, 0)) (pcN := 12) jI_263_11 rfl rfl rfl ?_
  refine jT_xiload_n (v := (0, 8)) (pcN := 13) jI_263_12 rfl rfl rfl ?_
  refine jT_xi2l (x := 8) (z := 8) (pcN := 14) jI_263_13 rfl (by decide +kernel) rfl ?_
  refine jT_xlconst (z := 0) (pcN := 15) jI_263_14 rfl rfl ?_
  refine jT_adv 1 (pcN := 18) (LN := [(0, (4, 0)), (1, (0, x1)), (2, (0, 8)), (3, (0, 2))]) (stN := [(1, 9), (1, 0), (1, 8), (4, 0)]) (hsN := jpA_1695) (c1 := 0) (s1 := 0) (c2 := 10) (s2 := 360) (by exact rfl) ?_ (by omega) (by omega)
  refine jT_fR [] 22 (y := 189) (pcN := 21) (dC := 0) (bc1 := 0) (bc2 := 0) (c1 := 10) (c2 := 360) (as := [(1, 8), (1, 0), (1, 9)]) (asC := [(1, 8), (1, 0), (1, 9)]) (LN := [(0, (4, 0)), (1, (0, x1)), (2, (0, 8)), (3, (0, 2))]) (stN := [(4, 0)]) (hsC := []) (v := (0, 1)) (st2 := [(0, 1), (4, 0)]) (jA_189_1489 (d := 0)) (by rfl) (by rfl) (by decide +kernel) (by rfl) (by rfl) (by omega) (by omega) (by omega) (by omega) rfl ?_
  refine jT_xifF (t := 40) (pcN := 24) jI_263_21 rfl (by decide +kernel) rfl rfl ?_
  refine jT_xiload_n (v := (0, 2)) (pcN := 25) jI_263_24 rfl rfl rfl ?_
  refine jT_xi2l (x := 2) (z := 2) (pcN := 26) jI_263_25 rfl (by decide +kernel) rfl ?_
  refine jT_xlconst (z := 0) (pcN := 27) jI_263_26 rfl rfl ?_
  refine jT_adv 1 (pcN := 30) (LN := [(0, (4, 0)), (1, (0, x1)), (2, (0, 8)), (3, (0, 2))]) (stN := [(1, 2), (1, 0), (1, 2), (4, 0)]) (hsN := jpA_1695) (c1 := 0) (s1 := 0) (c2 := 10) (s2 := 360) (by exact rfl) ?_ (by omega) (by omega)
  refine jT_fR [] 22 (y := 189) (pcN := 33) (dC := 0) (bc1 := 0) (bc2 := 0) (c1 := 10) (c2 := 360) (as := [(1, 2), (1, 0), (1, 2)]) (asC := [(1, 2), (1, 0), (1, 2)]) (LN := [(0, (4, 0)), (1, (0, x1)), (2, (0, 8)), (3, (0, 2))]) (stN := [(4, 0)]) (hsC := []) (v := (0, 1)) (st2 := [(0, 1), (4, 0)]) (jA_189_1305 (d := 0)) (by rfl) (by rfl) (by decide +kernel) (by rfl) (by rfl) (by omega) (by omega) (by omega) (by omega) rfl ?_
  refine jT_xifF (t := 40) (pcN := 36) jI_263_33 rfl (by decide +kernel) rfl rfl ?_
  refine jT_xiconst (k := 1) (pcN := 37) jI_263_36 rfl ?_
  refine jT_xgoto (pcN := 41) jI_263_37 rfl ?_
  refine jT_xiconst (k := 2) (pcN := 42) jI_263_41 rfl ?_
  refine jT_fR [0] 22 (y := 191) (pcN := 45) (dC := 0) (bc1 := 0) (bc2 := 0) (c1 := 10) (c2 := 360) (as := [(4, 0), (0, 1), (0, 2)]) (asC := [(4, 0), (0, 1), (0, 2)]) (LN := [(0, (4, 0)), (1, (0, x1)), (2, (0, 8)), (3, (0, 2))]) (stN := []) (hsC := [jgh]) (v := (0, 0)) (st2 := [(0, 0)]) (jA_191_49 (d := 0)) (by rfl) (by rfl) (by decide +kernel) (by rfl) (by rfl) (by omega) (by omega) (by omega) (by omega) rfl ?_
  refine jT_xifT (pcN := 50) jI_263_45 rfl (by decide +kernel) rfl ?_
  refine jT_xaload_n (v := (4, 0)) (pcN := 51) jI_263_50 rfl rfl rfl ?_
  refine jT_xiload_n (v := (0, x1)) (pcN := 52) jI_263_51 rfl rfl rfl ?_
  refine jT_fR [0, 1, 2, 3, 4, 5, 6, 7, 8, 9, 10, 11, 12, 13, 14, 15] 22 (y := 202) (pcN := 55) (dC := 1) (bc1 := 0) (bc2 := 0) (c1 := 10) (c2 := 360) (as := [(4, 0), (0, x1)]) (asC := [(4, 0), (0, x1)]) (LN := [(0, (4, 0)), (1, (0, x1)), (2, (0, 8)), (3, (0, 2))]) (stN := []) (hsC := jpA_130) (v := (9, 0)) (st2 := []) (jA_202_115 (d := 0) (by omega)) (by rfl) (by rfl) (by decide +kernel) (by rfl) (by rfl) (by omega) (by omega) (by omega) (by omega) rfl ?_
  refine jT_xaload_n (v := (4, 0)) (pcN := 56) jI_263_55 rfl rfl rfl ?_
  refine jT_xiload_n (v := (0, 8)) (pcN := 57) jI_263_56 rfl rfl rfl ?_
  refine jT_fR [] 22 (y := 264) (pcN := 60) (dC := 0) (bc1 := 0) (bc2 := 0) (c1 := 10) (c2 := 360) (as := [(0, 8)]) (asC := [(0, 8)]) (LN := [(0, (4, 0)), (1, (0, x1)), (2, (0, 8)), (3, (0, 2))]) (stN := [(4, 0)]) (hsC := []) (v := (1, 100000000)) (st2 := [(1, 100000000), (4, 0)]) (jA_264_1490 (d := 0)) (by rfl) (by rfl) (by decide +kernel) (by rfl) (by rfl) (by omega) (by omega) (by omega) (by omega) rfl ?_
  refine jT_xiload_n (v := (0, 2)) (pcN := 61) jI_263_60 rfl rfl rfl ?_
  refine jT_fA [0, 1, 2, 3, 4, 5, 6, 7, 8, 9, 10, 11, 12, 13, 14, 15, 16, 17, 18, 19, 20, 21] 22 (y := 265) (pcN := 64) (dC := 7) (bc1 := 10) (bc2 := 360) (c1 := 0) (c2 := 0) (as := [(4, 0), (1, 100000000), (0, 2)]) (asC := [(4, 0), (1, 100000000), (0, 2)]) (LN := [(0, (4, 0)), (1, (0, x1)), (2, (0, 8)), (3, (0, 2))]) (stN := []) (hsC := jpA_684) (ex := jpA_3654) (v := (1, 0)) (st2 := [(1, 0)]) (hs2 := jpA_3655) (jA_265_1505 (d := 0)) (by rfl) (by rfl) (by decide +kernel) (by rfl) (by rfl) (by omega) (by omega) (by omega) (by omega) rfl (by decide +kernel) ?_
  exact jT_ret rfl (by decide) (by show 22 ≤ 32; decide) (by omega) (by omega) ⟨rfl, rfl, rfl⟩
theorem jA_116_1507 {xs : List Int} {d : Nat} : jT xs d 116 1 0 [(0, (4, 0)), (1, (0, 9)), (2, (0, 0)), (3, (0, 9))] [] [jgh] 0 0 (fun k v hsN => k = 0 ∧ v = (9, 0) ∧ hsN = [jgh] ++ []) := by
  refine jT_advK 6 (pcN := 21) (LN := [(0, (4, 0)), (1, (0, 9)), (2, (0, 0)), (3, (0, 9))]) (stN := []) (hsN := [jgh]) (c1 := 0) (s1 := 0) (c2 := 0) (s2 := 0) (by decide +kernel) ?_ (by omega) (by omega)
  exact jT_ret rfl (by decide) (by show 1 ≤ 1; decide) (by omega) (by omega) ⟨rfl, rfl, rfl⟩
theorem jA_45_1508 {xs : List Int} {d : Nat} : jT xs (d + 1) 45 4 0 [(0, (4, 0)), (1, (4, 1)), (2, (1, 1)), (4, (1, 1200000000000))] [] jpA_625 0 0 (fun k v hsN => k = 0 ∧ v = (1, 0) ∧ hsN = jpA_625 ++ []) := by
  refine jT_advK 10 (pcN := 17) (LN := [(0, (4, 0)), (1, (4, 1)), (2, (1, 1)), (4, (1, 1200000000000))]) (stN := [(4, 1), (4, 0)]) (hsN := jpA_625) (c1 := 0) (s1 := 0) (c2 := 0) (s2 := 0) (by decide +kernel) ?_ (by omega) (by omega)
  refine jT_fR [0, 1] 4 (y := 39) (pcN := 20) (dC := 0) (bc1 := 0) (bc2 := 0) (c1 := 0) (c2 := 0) (as := [(4, 0), (4, 1)]) (asC := [(4, 0), (4, 1)]) (LN := [(0, (4, 0)), (1, (4, 1)), (2, (1, 1)), (4, (1, 1200000000000))]) (stN := []) (hsC := [jgh, (101, [], [0, 0, 0, 0, 0, 0])]) (v := (1, 0)) (st2 := [(1, 0)]) (jA_39_144 (d := 0)) (by rfl) (by rfl) (by decide +kernel) (by rfl) (by rfl) (by omega) (by omega) (by omega) (by omega) rfl ?_
  refine jT_advK 11 (pcN := 36) (LN := [(6, (1, 0)), (0, (4, 0)), (1, (4, 1)), (2, (1, 1)), (4, (1, 1200000000000))]) (stN := [(1, 1), (1, 0)]) (hsN := jpA_625) (c1 := 0) (s1 := 0) (c2 := 0) (s2 := 0) (by decide +kernel) ?_ (by omega) (by omega)
  refine jT_fR [] 4 (y := 373) (pcN := 39) (dC := 0) (bc1 := 0) (bc2 := 0) (c1 := 0) (c2 := 0) (as := [(1, 0), (1, 1)]) (asC := [(1, 0), (1, 1)]) (LN := [(6, (1, 0)), (0, (4, 0)), (1, (4, 1)), (2, (1, 1)), (4, (1, 1200000000000))]) (stN := []) (hsC := []) (v := (1, 0)) (st2 := [(1, 0)]) (jA_373_145 (d := 0)) (by rfl) (by rfl) (by decide +kernel) (by rfl) (by rfl) (by omega) (by omega) (by omega) (by omega) rfl ?_
  exact jT_ret rfl (by decide) (by show 4 ≤ 4; decide) (by omega) (by omega) ⟨rfl, rfl, rfl⟩
theorem jA_44_1509 {xs : List Int} {d : Nat} : jT xs (d + 2) 44 5 0 [(0, (4, 0)), (1, (4, 1)), (2, (1, 1200000000000))] [] jpA_626 0 0 (fun k v hsN => k = 0 ∧ v = (1, 0) ∧ hsN = jpA_626 ++ []) := by
  refine jT_advK 6 (pcN := 10) (LN := [(0, (4, 0)), (1, (4, 1)), (2, (1, 1200000000000))]) (stN := [(1, 1200000000000), (1, 1), (4, 4), (4, 0)]) (hsN := jpA_626) (c1 := 0) (s1 := 0) (c2 := 0) (s2 := 0) (by decide +kernel) ?_ (by omega) (by omega)
  refine jT_fR [0, 4, 2, 3] 5 (y := 45) (pcN := 13) (dC := 1) (bc1 := 0) (bc2 := 0) (c1 := 0) (c2 := 0) (as := [(4, 0), (4, 4), (1, 1), (1, 1200000000000)]) (asC := [(4, 0), (4, 1), (1, 1), (1, 1200000000000)]) (LN := [(0, (4, 0)), (1, (4, 1)), (2, (1, 1200000000000))]) (stN := []) (hsC := jpA_625) (v := (1, 0)) (st2 := [(1, 0)]) (jA_45_1508 (d := 0)) (by rfl) (by rfl) (by decide +kernel) (by rfl) (by rfl) (by omega) (by omega) (by omega) (by omega) rfl ?_
  exact jT_ret rfl (by decide) (by show 5 ≤ 5; decide) (by omega) (by omega) ⟨rfl, rfl, rfl⟩
theorem jA_108_1510 {xs : List Int} {d : Nat} : jT xs (d + 3) 108 16 0 [(0, (4, 0)), (1, (4, 1)), (2, (0, 9)), (3, (0, 0))] [] jpA_4325 0 0 (fun k v hsN => k = 0 ∧ v = (1, 0) ∧ hsN = jpA_4325 ++ []) := by
  refine jT_advK 97 (pcN := 55) (LN := [(6, (0, 9)), (4, (1, 1200000000000)), (0, (4, 0)), (1, (4, 1)), (2, (0, 9)), (3, (0, 0))]) (stN := [(1, 1200000000000), (4, 1), (4, 2)]) (hsN := jpA_4325) (c1 := 0) (s1 := 0) (c2 := 0) (s2 := 0) (by decide +kernel) ?_ (by omega) (by omega)
  refine jT_fR [2, 1, 14, 15, 13] 16 (y := 44) (pcN := 58) (dC := 2) (bc1 := 0) (bc2 := 0) (c1 := 0) (c2 := 0) (as := [(4, 2), (4, 1), (1, 1200000000000)]) (asC := [(4, 0), (4, 1), (1, 1200000000000)]) (LN := [(6, (0, 9)), (4, (1, 1200000000000)), (0, (4, 0)), (1, (4, 1)), (2, (0, 9)), (3, (0, 0))]) (stN := []) (hsC := jpA_626) (v := (1, 0)) (st2 := [(1, 0)]) (jA_44_1509 (d := 0)) (by rfl) (by rfl) (by decide +kernel) (by rfl) (by rfl) (by omega) (by omega) (by omega) (by omega) rfl ?_
  exact jT_ret rfl (by decide) (by show 16 ≤ 16; decide) (by omega) (by omega) ⟨rfl, rfl, rfl⟩
theorem jA_140_1511 {xs : List Int} {d : Nat} {x1 : Int} (h_x1 : 0 ≤ x1 ∧ x1 ≤ 7) : jT xs (d + 4) 140 21 0 [(0, (4, 0)), (1, (0, x1)), (2, (0, 9)), (3, (0, 0))] [] jpA_3958 0 0 (fun k v hsN => k = 0 ∧ v = (1, 0) ∧ hsN = jpA_3958 ++ []) := by
  refine jT_xaload_n (v := (4, 0)) (pcN := 1) jI_140_0 rfl rfl rfl ?_
  refine jT_xiload_n (v := (0, x1)) (pcN := 2) jI_140_1 rfl rfl rfl ?_
  refine jT_xbipush (k := 8) (pcN := 4) jI_140_2 (by decide) rfl ?_
  refine jT_fR [0] 21 (y := 115) (pcN := 7) (dC := 0) (bc1 := 0) (bc2 := 0) (c1 := 0) (c2 := 0) (as := [(4, 0), (0, x1), (0, 8)]) (asC := [(4, 0), (0, x1), (0, 8)]) (LN := [(0, (4, 0)), (1, (0, x1)), (2, (0, 9)), (3, (0, 0))]) (stN := []) (hsC := [jgh]) (v := (9, 0)) (st2 := []) (jA_115_9 (d := 0) (by omega)) (by rfl) (by rfl) (by decide +kernel) (by rfl) (by rfl) (by omega) (by omega) (by omega) (by omega) rfl ?_
  refine jT_xaload_n (v := (4, 0)) (pcN := 8) jI_140_7 rfl rfl rfl ?_
  refine jT_xiload_n (v := (0, 9)) (pcN := 9) jI_140_8 rfl rfl rfl ?_
  refine jT_xiconst (k := 0) (pcN := 10) jI_140_9 rfl ?_
  refine jT_xbipush (k := 9) (pcN := 12) jI_140_10 (by decide) rfl ?_
  refine jT_fR [0] 21 (y := 116) (pcN := 15) (dC := 0) (bc1 := 0) (bc2 := 0) (c1 := 0) (c2 := 0) (as := [(4, 0), (0, 9), (0, 0), (0, 9)]) (asC := [(4, 0), (0, 9), (0, 0), (0, 9)]) (LN := [(0, (4, 0)), (1, (0, x1)), (2, (0, 9)), (3, (0, 0))]) (stN := []) (hsC := [jgh]) (v := (9, 0)) (st2 := []) (jA_116_1507 (d := 0)) (by rfl) (by rfl) (by decide +kernel) (by rfl) (by rfl) (by omega) (by omega) (by omega) (by omega) rfl ?_
  refine jT_xaload_n (v := (4, 0)) (pcN := 16) jI_140_15 rfl rfl rfl ?_
  refine jT_xiload_n (v := (0, 0)) (pcN := 17) jI_140_16 rfl rfl rfl ?_
  refine jT_xiconst (k := 0) (pcN := 18) jI_140_17 rfl ?_
  refine jT_xiconst (k := 2) (pcN := 19) jI_140_18 rfl ?_
  refine jT_fR [0] 21 (y := 116) (pcN := 22) (dC := 0) (bc1 := 0) (bc2 := 0) (c1 := 0) (c2 := 0) (as := [(4, 0), (0, 0), (0, 0), (0, 2)]) (asC := [(4, 0), (0, 0), (0, 0), (0, 2)]) (LN := [(0, (4, 0)), (1, (0, x1)), (2, (0, 9)), (3, (0, 0))]) (stN := []) (hsC := [jgh]) (v := (9, 0)) (st2 := []) (jA_116_1279 (d := 0)) (by rfl) (by rfl) (by decide +kernel) (by rfl) (by rfl) (by omega) (by omega) (by omega) (by omega) rfl ?_
  refine jT_xaload_n (v := (4, 0)) (pcN := 23) jI_140_22 rfl rfl rfl ?_
  refine jT_xaload_n (v := (4, 0)) (pcN := 24) jI_140_23 rfl rfl rfl ?_
  refine jT_xgetf (a := 0) (t := 1) (ci := 13) (fi := 11) (c := jzA_5) (v := (4, 11)) (pcN := 27) jI_140_24 rfl rfl rfl rfl rfl rfl rfl ?_
  refine jT_xiload_n (v := (0, x1)) (pcN := 28) jI_140_27 rfl rfl rfl ?_
  refine jT_fR [11, 14, 15, 16, 17, 18, 19] 21 (y := 57) (pcN := 31) (dC := 0) (bc1 := 0) (bc2 := 0) (c1 := 0) (c2 := 0) (as := [(4, 11), (0, x1)]) (asC := [(4, 0), (0, x1)]) (LN := [(0, (4, 0)), (1, (0, x1)), (2, (0, 9)), (3, (0, 0))]) (stN := [(4, 0)]) (hsC := jpA_47) (v := (4, 6)) (st2 := [(4, 19), (4, 0)]) (jA_57_108 (d := 0) (by omega)) (by rfl) (by rfl) (by decide +kernel) (by rfl) (by rfl) (by omega) (by omega) (by omega) (by omega) rfl ?_
  refine jT_xiload_n (v := (0, 9)) (pcN := 32) jI_140_31 rfl rfl rfl ?_
  refine jT_xiload_n (v := (0, 0)) (pcN := 33) jI_140_32 rfl rfl rfl ?_
  refine jT_fR [0, 19, 1, 2, 3, 4, 5, 6, 7, 8, 9, 10, 11, 20, 12, 13] 21 (y := 108) (pcN := 36) (dC := 3) (bc1 := 0) (bc2 := 0) (c1 := 0) (c2 := 0) (as := [(4, 0), (4, 19), (0, 9), (0, 0)]) (asC := [(4, 0), (4, 1), (0, 9), (0, 0)]) (LN := [(0, (4, 0)), (1, (0, x1)), (2, (0, 9)), (3, (0, 0))]) (stN := []) (hsC := jpA_4325) (v := (1, 0)) (st2 := [(1, 0)]) (jA_108_1510 (d := 0)) (by rfl) (by rfl) (by decide +kernel) (by rfl) (by rfl) (by omega) (by omega) (by omega) (by omega) rfl ?_
  exact jT_ret rfl (by decide) (by show 21 ≤ 21; decide) (by omega) (by omega) ⟨rfl, rfl, rfl⟩
theorem jA_347_1512 {xs : List Int} {d : Nat} {x1 : Int} (h_x1 : 0 ≤ x1 ∧ x1 ≤ 7) : jT xs (d + 5) 347 22 0 [(0, (4, 0)), (1, (0, x1)), (2, (0, 9)), (3, (0, 0)), (4, (4, 1))] [] jpA_4038 0 0 (fun k v hsN => k = 0 ∧ v = (0, 0) ∧ hsN = jpA_4038 ++ []) := by
  refine jT_xaload (v := (4, 1)) (pcN := 2) jI_347_0 rfl rfl rfl ?_
  refine jT_xiconst (k := 0) (pcN := 3) jI_347_2 rfl ?_
  refine jT_xaload_n (v := (4, 0)) (pcN := 4) jI_347_3 rfl rfl rfl ?_
  refine jT_xiload_n (v := (0, x1)) (pcN := 5) jI_347_4 rfl rfl rfl ?_
  refine jT_xiload_n (v := (0, 9)) (pcN := 6) jI_347_5 rfl rfl rfl ?_
  refine jT_xiload_n (v := (0, 0)) (pcN := 7) jI_347_6 rfl rfl rfl ?_
  refine jT_fR [0, 2, 3, 4, 5, 6, 7, 8, 9, 10, 11, 12, 13, 14, 15, 16, 17, 18, 19, 20, 21] 22 (y := 140) (pcN := 10) (dC := 4) (bc1 := 0) (bc2 := 0) (c1 := 0) (c2 := 0) (as := [(4, 0), (0, x1), (0, 9), (0, 0)]) (asC := [(4, 0), (0, x1), (0, 9), (0, 0)]) (LN := [(0, (4, 0)), (1, (0, x1)), (2, (0, 9)), (3, (0, 0)), (4, (4, 1))]) (stN := [(0, 0), (4, 1)]) (hsC := jpA_3958) (v := (1, 0)) (st2 := [(1, 0), (0, 0), (4, 1)]) (jA_140_1511 (d := 0) (by omega)) (by rfl) (by rfl) (by decide +kernel) (by rfl) (by rfl) (by omega) (by omega) (by omega) (by omega) rfl ?_
  refine jT_adv 1 (pcN := 11) (LN := [(0, (4, 0)), (1, (0, x1)), (2, (0, 9)), (3, (0, 0)), (4, (4, 1))]) (stN := []) (hsN := jpA_4038) (c1 := 0) (s1 := 0) (c2 := 0) (s2 := 0) (by exact rfl) ?_ (by omega) (by omega)
  refine jT_xgoto (pcN := 22) jI_347_11 rfl ?_
  refine jT_xiconst (k := 0) (pcN := 23) jI_347_22 rfl ?_
  exact jT_ret rfl (by decide) (by show 22 ≤ 22; decide) (by omega) (by omega) ⟨rfl, rfl, rfl⟩
theorem jA_189_1513 {xs : List Int} {d : Nat} : jT xs d 189 0 0 [(0, (1, 9)), (2, (1, 0)), (4, (1, 9))] [] [] 0 0 (fun k v hsN => k = 0 ∧ v = (0, 1) ∧ hsN = [] ++ []) := by
  refine jT_advK 10 (pcN := 18) (LN := [(0, (1, 9)), (2, (1, 0)), (4, (1, 9))]) (stN := [(0, 1)]) (hsN := []) (c1 := 0) (s1 := 0) (c2 := 0) (s2 := 0) (by decide +kernel) ?_ (by omega) (by omega)
  exact jT_ret rfl (by decide) (by show 0 ≤ 0; decide) (by omega) (by omega) ⟨rfl, rfl, rfl⟩
theorem jA_264_1514 {xs : List Int} {d : Nat} : jT xs d 264 0 0 [(0, (0, 9))] [] [] 0 0 (fun k v hsN => k = 0 ∧ v = (1, 1000000000) ∧ hsN = [] ++ []) := by
  refine jT_advK 89 (pcN := 22) (LN := [(3, (0, 9)), (1, (1, 1000000000)), (0, (0, 9))]) (stN := [(1, 1000000000)]) (hsN := []) (c1 := 0) (s1 := 0) (c2 := 0) (s2 := 0) (by decide +kernel) ?_ (by omega) (by omega)
  exact jT_ret rfl (by decide) (by show 0 ≤ 0; decide) (by omega) (by omega) ⟨rfl, rfl, rfl⟩
theorem jA_218_1515 {xs : List Int} {d : Nat} : jT xs d 218 16 0 [(0, (4, 0)), (1, (1, 1200000000000))] [] jpA_147 1 6 (fun k v hsN => k = 0 ∧ v = (4, 16) ∧ hsN = jpA_147 ++ [(101, [], [0, 0, 0, 0, 0, 0])]) := by
  refine jT_advK 93 (pcN := 35) (LN := [(4, (0, 6)), (3, (4, 16)), (0, (4, 0)), (1, (1, 1200000000000))]) (stN := [(4, 16)]) (hsN := jpA_984) (c1 := 1) (s1 := 6) (c2 := 0) (s2 := 0) (by decide +kernel) ?_ (by omega) (by omega)
  exact jT_ret rfl (by decide) (by show 16 ≤ 17; decide) (by omega) (by omega) ⟨rfl, rfl, rfl⟩
theorem jA_265_1516 {xs : List Int} {d : Nat} : jT xs (d + 6) 265 22 0 [(0, (4, 0)), (1, (1, 1000000000)), (3, (0, 0))] [] jpA_684 6 186 (fun k v hsN => k = 0 ∧ v = (1, 0) ∧ hsN = jpA_684 ++ jpA_4341) := by
  refine jT_advK 4 (pcN := 6) (LN := [(0, (4, 0)), (1, (1, 1000000000)), (3, (0, 0))]) (stN := [(1, 1200000000000), (4, 0)]) (hsN := jpA_684) (c1 := 0) (s1 := 0) (c2 := 6) (s2 := 186) (by decide +kernel) ?_ (by omega) (by omega)
  refine jT_fA [0, 1, 2, 3, 4, 5, 6, 7, 8, 9, 10, 11, 12, 13, 14, 15] 22 (y := 218) (pcN := 9) (dC := 0) (bc1 := 1) (bc2 := 6) (c1 := 5) (c2 := 180) (as := [(4, 0), (1, 1200000000000)]) (asC := [(4, 0), (1, 1200000000000)]) (LN := [(0, (4, 0)), (1, (1, 1000000000)), (3, (0, 0))]) (stN := []) (hsC := jpA_147) (ex := [(101, [], [0, 0, 0, 0, 0, 0])]) (v := (4, 16)) (st2 := [(4, 22)]) (hs2 := jpA_3652) (jA_218_1515 (d := 0)) (by rfl) (by rfl) (by decide +kernel) (by rfl) (by rfl) (by omega) (by omega) (by omega) (by omega) rfl (by decide +kernel) ?_
  refine jT_advK 8 (pcN := 34) (LN := [(4, (4, 22)), (0, (4, 0)), (1, (1, 1000000000)), (3, (0, 0))]) (stN := [(1, 1), (4, 22), (4, 0)]) (hsN := jpA_3652) (c1 := 0) (s1 := 0) (c2 := 5) (s2 := 180) (by decide +kernel) ?_ (by omega) (by omega)
  refine jT_fA [0, 22, 1, 2, 3, 4, 5, 6, 7, 8, 9, 10, 11, 12, 13, 14, 15, 16, 17, 18, 19, 20, 21] 23 (y := 210) (pcN := 37) (dC := 5) (bc1 := 5) (bc2 := 180) (c1 := 0) (c2 := 0) (as := [(4, 0), (4, 22), (1, 1)]) (asC := [(4, 0), (4, 1), (1, 1)]) (LN := [(4, (4, 22)), (0, (4, 0)), (1, (1, 1000000000)), (3, (0, 0))]) (stN := []) (hsC := jpA_987) (ex := jpA_683) (v := (1, 0)) (st2 := [(1, 0)]) (hs2 := jpA_4340) (jA_210_1290 (d := 0)) (by rfl) (by rfl) (by decide +kernel) (by rfl) (by rfl) (by omega) (by omega) (by omega) (by omega) rfl (by decide +kernel) ?_
  refine jT_advK 5 (pcN := 68) (LN := [(5, (1, 0)), (4, (4, 22)), (0, (4, 0)), (1, (1, 1000000000)), (3, (0, 0))]) (stN := [(1, 0)]) (hsN := jpA_4340) (c1 := 0) (s1 := 0) (c2 := 0) (s2 := 0) (by decide +kernel) ?_ (by omega) (by omega)
  exact jT_ret rfl (by decide) (by show 22 ≤ 28; decide) (by omega) (by omega) ⟨rfl, rfl, rfl⟩
theorem jA_263_1517 {xs : List Int} {d : Nat} {x1 : Int} (h_x1 : 0 ≤ x1 ∧ x1 ≤ 7) : jT xs (d + 7) 263 22 0 [(0, (4, 0)), (1, (0, x1)), (2, (0, 9)), (3, (0, 0))] [] jpA_1695 6 186 (fun k v hsN => k = 0 ∧ v = (1, 0) ∧ hsN = jpA_1695 ++ jpA_4341) := by
  refine jT_xaload_n (v := (4, 0)) (pcN := 1) jI_263_0 rfl rfl rfl ?_
  refine jT_xiload_n (v := (0, x1)) (pcN := 2) jI_263_1 rfl rfl rfl ?_
  refine jT_fR [] 22 (y := 188) (pcN := 5) (dC := 1) (bc1 := 0) (bc2 := 0) (c1 := 6) (c2 := 186) (as := [(0, x1)]) (asC := [(0, x1)]) (LN := [(0, (4, 0)), (1, (0, x1)), (2, (0, 9)), (3, (0, 0))]) (stN := [(4, 0)]) (hsC := []) (v := (0, 1)) (st2 := [(0, 1), (4, 0)]) (jA_188_13 (d := 0) (by omega)) (by rfl) (by rfl) (by decide +kernel) (by rfl) (by rfl) (by omega) (by omega) (by omega) (by omega) rfl ?_
  refine jT_fR [0, 1, 2, 3, 4, 5, 6, 7, 8, 9, 10, 11, 12, 13, 14, 15] 22 (y := 190) (pcN := 8) (dC := 1) (bc1 := 0) (bc2 := 0) (c1 := 6) (c2 := 186) (as := [(4, 0), (0, 1)]) (asC := [(4, 0), (0, 1)]) (LN := [(0, (4, 0)), (1, (0, x1)), (2, (0, 9)), (3, (0, 0))]) (stN := []) (hsC := jpA_22) (v := (0, 0)) (st2 := [(0, 0)]) (jA_190_39 (d := 0)) (by rfl) (by rfl) (by decide +kernel) (by rfl) (by rfl) (by omega) (by omega) (by omega) (by omega) rfl ?_
  refine jT_xifF (t := 48) (pcN := 11) jI_263_8 rfl (by decide +kernel) rfl rfl ?_
  refine jT_xaload_n (v := (4, 0)) (pcN := 12) jI_263_11 rfl rfl rfl ?_
  refine jT_xiload_n (v := (0, 9)) (pcN := 13) jI_263_12 rfl rfl rfl ?_
  refine jT_xi2l (x := 9) (z := 9) (pcN := 14) jI_263_13 rfl (by decide +kernel) rfl ?_
  refine jT_xlconst (z := 0) (pcN := 15) jI_263_14 rfl rfl ?_
  refine jT_adv 1 (pcN := 18) (LN := [(0, (4, 0)), (1, (0, x1)), (2, (0, 9)), (3, (0, 0))]) (stN := [(1, 9), (1, 0), (1, 9), (4, 0)]) (hsN := jpA_1695) (c1 := 0) (s1 := 0) (c2 := 6) (s2 := 186) (by exact rfl) ?_ (by omega) (by omega)
  refine jT_fR [] 22 (y := 189) (pcN := 21) (dC := 0) (bc1 := 0) (bc2 := 0) (c1 := 6) (c2 := 186) (as := [(1, 9), (1, 0), (1, 9)]) (asC := [(1, 9), (1, 0), (1, 9)]) (LN := [(0, (4, 0)), (1, (0, x1)), (2, (0, 9)), (3, (0, 0))]) (stN := [(4, 0)]) (hsC := []) (v := (0, 1)) (st2 := [(0, 1), (4, 0)]) (jA_189_1513 (d := 0)) (by rfl) (by rfl) (by decide +kernel) (by rfl) (by rfl) (by omega) (by omega) (by omega) (by omega) rfl ?_
  refine jT_xifF (t := 40) (pcN := 24) jI_263_21 rfl (by decide +kernel) rfl rfl ?_
  refine jT_xiload_n (v := (0, 0)) (pcN := 25) jI_263_24 rfl rfl rfl ?_
  refine jT_xi2l (x := 0) (z := 0) (pcN := 26) jI_263_25 rfl (by decide +kernel) rfl ?_
  refine jT_xlconst (z := 0) (pcN := 27) jI_263_26 rfl rfl ?_
  refine jT_adv 1 (pcN := 30) (LN := [(0, (4, 0)), (1, (0, x1)), (2, (0, 9)), (3, (0, 0))]) (stN := [(1, 2), (1, 0), (1, 0), (4, 0)]) (hsN := jpA_1695) (c1 := 0) (s1 := 0) (c2 := 6) (s2 := 186) (by exact rfl) ?_ (by omega) (by omega)
  refine jT_fR [] 22 (y := 189) (pcN := 33) (dC := 0) (bc1 := 0) (bc2 := 0) (c1 := 6) (c2 := 186) (as := [(1, 0), (1, 0), (1, 2)]) (asC := [(1, 0), (1, 0), (1, 2)]) (LN := [(0, (4, 0)), (1, (0, x1)), (2, (0, 9)), (3, (0, 0))]) (stN := [(4, 0)]) (hsC := []) (v := (0, 1)) (st2 := [(0, 1), (4, 0)]) (jA_189_1286 (d := 0)) (by rfl) (by rfl) (by decide +kernel) (by rfl) (by rfl) (by omega) (by omega) (by omega) (by omega) rfl ?_
  refine jT_xifF (t := 40) (pcN := 36) jI_263_33 rfl (by decide +kernel) rfl rfl ?_
  refine jT_xiconst (k := 1) (pcN := 37) jI_263_36 rfl ?_
  refine jT_xgoto (pcN := 41) jI_263_37 rfl ?_
  refine jT_xiconst (k := 2) (pcN := 42) jI_263_41 rfl ?_
  refine jT_fR [0] 22 (y := 191) (pcN := 45) (dC := 0) (bc1 := 0) (bc2 := 0) (c1 := 6) (c2 := 186) (as := [(4, 0), (0, 1), (0, 2)]) (asC := [(4, 0), (0, 1), (0, 2)]) (LN := [(0, (4, 0)), (1, (0, x1)), (2, (0, 9)), (3, (0, 0))]) (stN := []) (hsC := [jgh]) (v := (0, 0)) (st2 := [(0, 0)]) (jA_191_49 (d := 0)) (by rfl) (by rfl) (by decide +kernel) (by rfl) (by rfl) (by omega) (by omega) (by omega) (by omega) rfl ?_
  refine jT_xifT (pcN := 50) jI_263_45 rfl (by decide +kernel) rfl ?_
  refine jT_xaload_n (v := (4, 0)) (pcN := 51) jI_263_50 rfl rfl rfl ?_
  refine jT_xiload_n (v := (0, x1)) (pcN := 52) jI_263_51 rfl rfl rfl ?_
  refine jT_fR [0, 1, 2, 3, 4, 5, 6, 7, 8, 9, 10, 11, 12, 13, 14, 15] 22 (y := 202) (pcN := 55) (dC := 1) (bc1 := 0) (bc2 := 0) (c1 := 6) (c2 := 186) (as := [(4, 0), (0, x1)]) (asC := [(4, 0), (0, x1)]) (LN := [(0, (4, 0)), (1, (0, x1)), (2, (0, 9)), (3, (0, 0))]) (stN := []) (hsC := jpA_130) (v := (9, 0)) (st2 := []) (jA_202_115 (d := 0) (by omega)) (by rfl) (by rfl) (by decide +kernel) (by rfl) (by rfl) (by omega) (by omega) (by omega) (by omega) rfl ?_
  refine jT_xaload_n (v := (4, 0)) (pcN := 56) jI_263_55 rfl rfl rfl ?_
  refine jT_xiload_n (v := (0, 9)) (pcN := 57) jI_263_56 rfl rfl rfl ?_
  refine jT_fR [] 22 (y := 264) (pcN := 60) (dC := 0) (bc1 := 0) (bc2 := 0) (c1 := 6) (c2 := 186) (as := [(0, 9)]) (asC := [(0, 9)]) (LN := [(0, (4, 0)), (1, (0, x1)), (2, (0, 9)), (3, (0, 0))]) (stN := [(4, 0)]) (hsC := []) (v := (1, 1000000000)) (st2 := [(1, 1000000000), (4, 0)]) (jA_264_1514 (d := 0)) (by rfl) (by rfl) (by decide +kernel) (by rfl) (by rfl) (by omega) (by omega) (by omega) (by omega) rfl ?_
  refine jT_xiload_n (v := (0, 0)) (pcN := 61) jI_263_60 rfl rfl rfl ?_
  refine jT_fA [0, 1, 2, 3, 4, 5, 6, 7, 8, 9, 10, 11, 12, 13, 14, 15, 16, 17, 18, 19, 20, 21] 22 (y := 265) (pcN := 64) (dC := 6) (bc1 := 6) (bc2 := 186) (c1 := 0) (c2 := 0) (as := [(4, 0), (1, 1000000000), (0, 0)]) (asC := [(4, 0), (1, 1000000000), (0, 0)]) (LN := [(0, (4, 0)), (1, (0, x1)), (2, (0, 9)), (3, (0, 0))]) (stN := []) (hsC := jpA_684) (ex := jpA_4341) (v := (1, 0)) (st2 := [(1, 0)]) (hs2 := jpA_4349) (jA_265_1516 (d := 0)) (by rfl) (by rfl) (by decide +kernel) (by rfl) (by rfl) (by omega) (by omega) (by omega) (by omega) rfl (by decide +kernel) ?_
  exact jT_ret rfl (by decide) (by show 22 ≤ 28; decide) (by omega) (by omega) ⟨rfl, rfl, rfl⟩
theorem jA_108_1518 {xs : List Int} {d : Nat} : jT xs (d + 3) 108 16 0 [(0, (4, 0)), (1, (4, 1)), (2, (0, 9)), (3, (0, 1))] [] jpA_4325 2 8 (fun k v hsN => k = 0 ∧ v = (1, 0) ∧ hsN = jpA_4325 ++ [(101, [], [0, 0, 0, 0, 0, 0]), (4, [(4, 16), (1, 1)], [])]) := by
  refine jT_advK 99 (pcN := 69) (LN := [(6, (0, 9)), (4, (1, 1200000000000)), (0, (4, 0)), (1, (4, 1)), (2, (0, 9)), (3, (0, 1))]) (stN := [(1, 0), (1, 1), (1, (-1)), (4, 1), (4, 2)]) (hsN := jpA_4325) (c1 := 0) (s1 := 0) (c2 := 2) (s2 := 8) (by decide +kernel) ?_ (by omega) (by omega)
  refine jT_fA [1, 13] 16 (y := 10) (pcN := 72) (dC := 2) (bc1 := 2) (bc2 := 8) (c1 := 0) (c2 := 0) (as := [(4, 1), (1, (-1)), (1, 1), (1, 0)]) (asC := [(4, 0), (1, (-1)), (1, 1), (1, 0)]) (LN := [(6, (0, 9)), (4, (1, 1200000000000)), (0, (4, 0)), (1, (4, 1)), (2, (0, 9)), (3, (0, 1))]) (stN := [(4, 2)]) (hsC := [(4, [(4, 1), (1, 1)], []), (101, [], [0, 0, 0, 0, 0, 0])]) (ex := [(101, [], [0, 0, 0, 0, 0, 0]), (4, [(4, 2), (1, 1)], [])]) (v := (4, 3)) (st2 := [(4, 17), (4, 2)]) (hs2 := jpA_4350) (jA_10_1294 (d := 0)) (by rfl) (by rfl) (by decide +kernel) (by rfl) (by rfl) (by omega) (by omega) (by omega) (by omega) rfl (by decide +kernel) ?_
  refine jT_advK 1 (pcN := 74) (LN := [(6, (0, 9)), (4, (1, 1200000000000)), (0, (4, 0)), (1, (4, 1)), (2, (0, 9)), (3, (0, 1))]) (stN := [(1, 1200000000000), (4, 17), (4, 2)]) (hsN := jpA_4350) (c1 := 0) (s1 := 0) (c2 := 0) (s2 := 0) (by decide +kernel) ?_ (by omega) (by omega)
  refine jT_fR [2, 17, 14, 15, 16] 18 (y := 44) (pcN := 77) (dC := 2) (bc1 := 0) (bc2 := 0) (c1 := 0) (c2 := 0) (as := [(4, 2), (4, 17), (1, 1200000000000)]) (asC := [(4, 0), (4, 1), (1, 1200000000000)]) (LN := [(6, (0, 9)), (4, (1, 1200000000000)), (0, (4, 0)), (1, (4, 1)), (2, (0, 9)), (3, (0, 1))]) (stN := []) (hsC := jpA_626) (v := (1, 0)) (st2 := [(1, 0)]) (jA_44_1509 (d := 0)) (by rfl) (by rfl) (by decide +kernel) (by rfl) (by rfl) (by omega) (by omega) (by omega) (by omega) rfl ?_
  refine jT_advK 1 (pcN := 78) (LN := [(6, (0, 9)), (4, (1, 1200000000000)), (0, (4, 0)), (1, (4, 1)), (2, (0, 9)), (3, (0, 1))]) (stN := [(1, 0)]) (hsN := jpA_4350) (c1 := 0) (s1 := 0) (c2 := 0) (s2 := 0) (by decide +kernel) ?_ (by omega) (by omega)
  exact jT_ret rfl (by decide) (by show 16 ≤ 18; decide) (by omega) (by omega) ⟨rfl, rfl, rfl⟩
theorem jA_140_1519 {xs : List Int} {d : Nat} {x1 : Int} (h_x1 : 0 ≤ x1 ∧ x1 ≤ 7) : jT xs (d + 4) 140 21 0 [(0, (4, 0)), (1, (0, x1)), (2, (0, 9)), (3, (0, 1))] [] jpA_3958 2 8 (fun k v hsN => k = 0 ∧ v = (1, 0) ∧ hsN = jpA_3958 ++ [(101, [], [0, 0, 0, 0, 0, 0]), (4, [(4, 21), (1, 1)], [])]) := by
  refine jT_xaload_n (v := (4, 0)) (pcN := 1) jI_140_0 rfl rfl rfl ?_
  refine jT_xiload_n (v := (0, x1)) (pcN := 2) jI_140_1 rfl rfl rfl ?_
  refine jT_xbipush (k := 8) (pcN := 4) jI_140_2 (by decide) rfl ?_
  refine jT_fR [0] 21 (y := 115) (pcN := 7) (dC := 0) (bc1 := 0) (bc2 := 0) (c1 := 2) (c2 := 8) (as := [(4, 0), (0, x1), (0, 8)]) (asC := [(4, 0), (0, x1), (0, 8)]) (LN := [(0, (4, 0)), (1, (0, x1)), (2, (0, 9)), (3, (0, 1))]) (stN := []) (hsC := [jgh]) (v := (9, 0)) (st2 := []) (jA_115_9 (d := 0) (by omega)) (by rfl) (by rfl) (by decide +kernel) (by rfl) (by rfl) (by omega) (by omega) (by omega) (by omega) rfl ?_
  refine jT_xaload_n (v := (4, 0)) (pcN := 8) jI_140_7 rfl rfl rfl ?_
  refine jT_xiload_n (v := (0, 9)) (pcN := 9) jI_140_8 rfl rfl rfl ?_
  refine jT_xiconst (k := 0) (pcN := 10) jI_140_9 rfl ?_
  refine jT_xbipush (k := 9) (pcN := 12) jI_140_10 (by decide) rfl ?_
  refine jT_fR [0] 21 (y := 116) (pcN := 15) (dC := 0) (bc1 := 0) (bc2 := 0) (c1 := 2) (c2 := 8) (as := [(4, 0), (0, 9), (0, 0), (0, 9)]) (asC := [(4, 0), (0, 9), (0, 0), (0, 9)]) (LN := [(0, (4, 0)), (1, (0, x1)), (2, (0, 9)), (3, (0, 1))]) (stN := []) (hsC := [jgh]) (v := (9, 0)) (st2 := []) (jA_116_1507 (d := 0)) (by rfl) (by rfl) (by decide +kernel) (by rfl) (by rfl) (by omega) (by omega) (by omega) (by omega) rfl ?_
  refine jT_xaload_n (v := (4, 0)) (pcN := 16) jI_140_15 rfl rfl rfl ?_
  refine jT_xiload_n (v := (0, 1)) (pcN := 17) jI_140_16 rfl rfl rfl ?_
  refine jT_xiconst (k := 0) (pcN := 18) jI_140_17 rfl ?_
  refine jT_xiconst (k := 2) (pcN := 19) jI_140_18 rfl ?_
  refine jT_fR [0] 21 (y := 116) (pcN := 22) (dC := 0) (bc1 := 0) (bc2 := 0) (c1 := 2) (c2 := 8) (as := [(4, 0), (0, 1), (0, 0), (0, 2)]) (asC := [(4, 0), (0, 1), (0, 0), (0, 2)]) (LN := [(0, (4, 0)), (1, (0, x1)), (2, (0, 9)), (3, (0, 1))]) (stN := []) (hsC := [jgh]) (v := (9, 0)) (st2 := []) (jA_116_1293 (d := 0)) (by rfl) (by rfl) (by decide +kernel) (by rfl) (by rfl) (by omega) (by omega) (by omega) (by omega) rfl ?_
  refine jT_xaload_n (v := (4, 0)) (pcN := 23) jI_140_22 rfl rfl rfl ?_
  refine jT_xaload_n (v := (4, 0)) (pcN := 24) jI_140_23 rfl rfl rfl ?_
  refine jT_xgetf (a := 0) (t := 1) (ci := 13) (fi := 11) (c := jzA_5) (v := (4, 11)) (pcN := 27) jI_140_24 rfl rfl rfl rfl rfl rfl rfl ?_
  refine jT_xiload_n (v := (0, x1)) (pcN := 28) jI_140_27 rfl rfl rfl ?_
  refine jT_fR [11, 14, 15, 16, 17, 18, 19] 21 (y := 57) (pcN := 31) (dC := 0) (bc1 := 0) (bc2 := 0) (c1 := 2) (c2 := 8) (as := [(4, 11), (0, x1)]) (asC := [(4, 0), (0, x1)]) (LN := [(0, (4, 0)), (1, (0, x1)), (2, (0, 9)), (3, (0, 1))]) (stN := [(4, 0)]) (hsC := jpA_47) (v := (4, 6)) (st2 := [(4, 19), (4, 0)]) (jA_57_108 (d := 0) (by omega)) (by rfl) (by rfl) (by decide +kernel) (by rfl) (by rfl) (by omega) (by omega) (by omega) (by omega) rfl ?_
  refine jT_xiload_n (v := (0, 9)) (pcN := 32) jI_140_31 rfl rfl rfl ?_
  refine jT_xiload_n (v := (0, 1)) (pcN := 33) jI_140_32 rfl rfl rfl ?_
  refine jT_fA [0, 19, 1, 2, 3, 4, 5, 6, 7, 8, 9, 10, 11, 20, 12, 13] 21 (y := 108) (pcN := 36) (dC := 3) (bc1 := 2) (bc2 := 8) (c1 := 0) (c2 := 0) (as := [(4, 0), (4, 19), (0, 9), (0, 1)]) (asC := [(4, 0), (4, 1), (0, 9), (0, 1)]) (LN := [(0, (4, 0)), (1, (0, x1)), (2, (0, 9)), (3, (0, 1))]) (stN := []) (hsC := jpA_4325) (ex := [(101, [], [0, 0, 0, 0, 0, 0]), (4, [(4, 16), (1, 1)], [])]) (v := (1, 0)) (st2 := [(1, 0)]) (hs2 := jpA_4351) (jA_108_1518 (d := 0)) (by rfl) (by rfl) (by decide +kernel) (by rfl) (by rfl) (by omega) (by omega) (by omega) (by omega) rfl (by decide +kernel) ?_
  exact jT_ret rfl (by decide) (by show 21 ≤ 23; decide) (by omega) (by omega) ⟨rfl, rfl, rfl⟩
theorem jA_347_1520 {xs : List Int} {d : Nat} {x1 : Int} (h_x1 : 0 ≤ x1 ∧ x1 ≤ 7) : jT xs (d + 5) 347 22 0 [(0, (4, 0)), (1, (0, x1)), (2, (0, 9)), (3, (0, 1)), (4, (4, 1))] [] jpA_4038 2 8 (fun k v hsN => k = 0 ∧ v = (0, 0) ∧ hsN = jpA_4038 ++ [(101, [], [0, 0, 0, 0, 0, 0]), (4, [(4, 22), (1, 1)], [])]) := by
  refine jT_xaload (v := (4, 1)) (pcN := 2) jI_347_0 rfl rfl rfl ?_
  refine jT_xiconst (k := 0) (pcN := 3) jI_347_2 rfl ?_
  refine jT_xaload_n (v := (4, 0)) (pcN := 4) jI_347_3 rfl rfl rfl ?_
  refine jT_xiload_n (v := (0, x1)) (pcN := 5) jI_347_4 rfl rfl rfl ?_
  refine jT_xiload_n (v := (0, 9)) (pcN := 6) jI_347_5 rfl rfl rfl ?_
  refine jT_xiload_n (v := (0, 1)) (pcN := 7) jI_347_6 rfl rfl rfl ?_
  refine jT_fA [0, 2, 3, 4, 5, 6, 7, 8, 9, 10, 11, 12, 13, 14, 15, 16, 17, 18, 19, 20, 21] 22 (y := 140) (pcN := 10) (dC := 4) (bc1 := 2) (bc2 := 8) (c1 := 0) (c2 := 0) (as := [(4, 0), (0, x1), (0, 9), (0, 1)]) (asC := [(4, 0), (0, x1), (0, 9), (0, 1)]) (LN := [(0, (4, 0)), (1, (0, x1)), (2, (0, 9)), (3, (0, 1)), (4, (4, 1))]) (stN := [(0, 0), (4, 1)]) (hsC := jpA_3958) (ex := [(101, [], [0, 0, 0, 0, 0, 0]), (4, [(4, 21), (1, 1)], [])]) (v := (1, 0)) (st2 := [(1, 0), (0, 0), (4, 1)]) (hs2 := jpA_4352) (jA_140_1519 (d := 0) (by omega)) (by rfl) (by rfl) (by decide +kernel) (by rfl) (by rfl) (by omega) (by omega) (by omega) (by omega) rfl (by decide +kernel) ?_
  refine jT_adv 1 (pcN := 11) (LN := [(0, (4, 0)), (1, (0, x1)), (2, (0, 9)), (3, (0, 1)), (4, (4, 1))]) (stN := []) (hsN := jpA_4352) (c1 := 0) (s1 := 0) (c2 := 0) (s2 := 0) (by exact rfl) ?_ (by omega) (by omega)
  refine jT_xgoto (pcN := 22) jI_347_11 rfl ?_
  refine jT_xiconst (k := 0) (pcN := 23) jI_347_22 rfl ?_
  exact jT_ret rfl (by decide) (by show 22 ≤ 24; decide) (by omega) (by omega) ⟨rfl, rfl, rfl⟩
theorem jA_265_1521 {xs : List Int} {d : Nat} : jT xs (d + 6) 265 22 0 [(0, (4, 0)), (1, (1, 1000000000)), (3, (0, 1))] [] jpA_684 7 192 (fun k v hsN => k = 0 ∧ v = (1, 0) ∧ hsN = jpA_684 ++ jpA_4354) := by
  refine jT_advK 4 (pcN := 6) (LN := [(0, (4, 0)), (1, (1, 1000000000)), (3, (0, 1))]) (stN := [(1, 1200000000000), (4, 0)]) (hsN := jpA_684) (c1 := 0) (s1 := 0) (c2 := 7) (s2 := 192) (by decide +kernel) ?_ (by omega) (by omega)
  refine jT_fA [0, 1, 2, 3, 4, 5, 6, 7, 8, 9, 10, 11, 12, 13, 14, 15] 22 (y := 218) (pcN := 9) (dC := 0) (bc1 := 1) (bc2 := 6) (c1 := 6) (c2 := 186) (as := [(4, 0), (1, 1200000000000)]) (asC := [(4, 0), (1, 1200000000000)]) (LN := [(0, (4, 0)), (1, (1, 1000000000)), (3, (0, 1))]) (stN := []) (hsC := jpA_147) (ex := [(101, [], [0, 0, 0, 0, 0, 0])]) (v := (4, 16)) (st2 := [(4, 22)]) (hs2 := jpA_3652) (jA_218_1515 (d := 0)) (by rfl) (by rfl) (by decide +kernel) (by rfl) (by rfl) (by omega) (by omega) (by omega) (by omega) rfl (by decide +kernel) ?_
  refine jT_advK 8 (pcN := 34) (LN := [(4, (4, 22)), (0, (4, 0)), (1, (1, 1000000000)), (3, (0, 1))]) (stN := [(1, 1), (4, 22), (4, 0)]) (hsN := jpA_3652) (c1 := 0) (s1 := 0) (c2 := 6) (s2 := 186) (by decide +kernel) ?_ (by omega) (by omega)
  refine jT_fA [0, 22, 1, 2, 3, 4, 5, 6, 7, 8, 9, 10, 11, 12, 13, 14, 15, 16, 17, 18, 19, 20, 21] 23 (y := 210) (pcN := 37) (dC := 5) (bc1 := 5) (bc2 := 180) (c1 := 1) (c2 := 6) (as := [(4, 0), (4, 22), (1, 1)]) (asC := [(4, 0), (4, 1), (1, 1)]) (LN := [(4, (4, 22)), (0, (4, 0)), (1, (1, 1000000000)), (3, (0, 1))]) (stN := []) (hsC := jpA_987) (ex := jpA_683) (v := (1, 0)) (st2 := [(1, 0)]) (hs2 := jpA_4340) (jA_210_1290 (d := 0)) (by rfl) (by rfl) (by decide +kernel) (by rfl) (by rfl) (by omega) (by omega) (by omega) (by omega) rfl (by decide +kernel) ?_
  refine jT_advK 9 (pcN := 53) (LN := [(5, (1, 0)), (4, (4, 22)), (0, (4, 0)), (1, (1, 1000000000)), (3, (0, 1))]) (stN := [(1, 0), (4, 22), (4, 0)]) (hsN := jpA_4340) (c1 := 0) (s1 := 0) (c2 := 1) (s2 := 6) (by decide +kernel) ?_ (by omega) (by omega)
  refine jT_fA [0, 22, 1, 2, 3, 4, 5, 6, 7, 8, 9, 10, 11, 12, 13, 14, 15] 28 (y := 212) (pcN := 56) (dC := 2) (bc1 := 1) (bc2 := 6) (c1 := 0) (c2 := 0) (as := [(4, 0), (4, 22), (1, 0)]) (asC := [(4, 0), (4, 1), (1, 0)]) (LN := [(5, (1, 0)), (4, (4, 22)), (0, (4, 0)), (1, (1, 1000000000)), (3, (0, 1))]) (stN := []) (hsC := jpA_4335) (ex := [(101, [], [0, 0, 0, 0, 0, 0])]) (v := (0, 0)) (st2 := [(0, 0)]) (hs2 := jpA_4353) (jA_212_1288 (d := 0)) (by rfl) (by rfl) (by decide +kernel) (by rfl) (by rfl) (by omega) (by omega) (by omega) (by omega) rfl (by decide +kernel) ?_
  refine jT_advK 3 (pcN := 68) (LN := [(5, (1, 0)), (4, (4, 22)), (0, (4, 0)), (1, (1, 1000000000)), (3, (0, 1))]) (stN := [(1, 0)]) (hsN := jpA_4353) (c1 := 0) (s1 := 0) (c2 := 0) (s2 := 0) (by decide +kernel) ?_ (by omega) (by omega)
  exact jT_ret rfl (by decide) (by show 22 ≤ 29; decide) (by omega) (by omega) ⟨rfl, rfl, rfl⟩
theorem jA_263_1522 {xs : List Int} {d : Nat} {x1 : Int} (h_x1 : 0 ≤ x1 ∧ x1 ≤ 7) : jT xs (d + 7) 263 22 0 [(0, (4, 0)), (1, (0, x1)), (2, (0, 9)), (3, (0, 1))] [] jpA_1695 7 192 (fun k v hsN => k = 0 ∧ v = (1, 0) ∧ hsN = jpA_1695 ++ jpA_4354) := by
  refine jT_xaload_n (v := (4, 0)) (pcN := 1) jI_263_0 rfl rfl rfl ?_
  refine jT_xiload_n (v := (0, x1)) (pcN := 2) jI_263_1 rfl rfl rfl ?_
  refine jT_fR [] 22 (y := 188) (pcN := 5) (dC := 1) (bc1 := 0) (bc2 := 0) (c1 := 7) (c2 := 192) (as := [(0, x1)]) (asC := [(0, x1)]) (LN := [(0, (4, 0)), (1, (0, x1)), (2, (0, 9)), (3, (0, 1))]) (stN := [(4, 0)]) (hsC := []) (v := (0, 1)) (st2 := [(0, 1), (4, 0)]) (jA_188_13 (d := 0) (by omega)) (by rfl) (by rfl) (by decide +kernel) (by rfl) (by rfl) (by omega) (by omega) (by omega) (by omega) rfl ?_
  refine jT_fR [0, 1, 2, 3, 4, 5, 6, 7, 8, 9, 10, 11, 12, 13, 14, 15] 22 (y := 190) (pcN := 8) (dC := 1) (bc1 := 0) (bc2 := 0) (c1 := 7) (c2 := 192) (as := [(4, 0), (0, 1)]) (asC := [(4, 0), (0, 1)]) (LN := [(0, (4, 0)), (1, (0, x1)), (2, (0, 9)), (3, (0, 1))]) (stN := []) (hsC := jpA_22) (v := (0, 0)) (st2 := [(0, 0)]) (jA_190_39 (d := 0)) (by rfl) (by rfl) (by decide +kernel) (by rfl) (by rfl) (by omega) (by omega) (by omega) (by omega) rfl ?_
  refine jT_xifF (t := 48) (pcN := 11) jI_263_8 rfl (by decide +kernel) rfl rfl ?_
  refine jT_xaload_n (v := (4, 0)) (pcN := 12) jI_263_11 rfl rfl rfl ?_
  refine jT_xiload_n (v := (0, 9)) (pcN := 13) jI_263_12 rfl rfl rfl ?_
  refine jT_xi2l (x := 9) (z := 9) (pcN := 14) jI_263_13 rfl (by decide +kernel) rfl ?_
  refine jT_xlconst (z := 0) (pcN := 15) jI_263_14 rfl rfl ?_
  refine jT_adv 1 (pcN := 18) (LN := [(0, (4, 0)), (1, (0, x1)), (2, (0, 9)), (3, (0, 1))]) (stN := [(1, 9), (1, 0), (1, 9), (4, 0)]) (hsN := jpA_1695) (c1 := 0) (s1 := 0) (c2 := 7) (s2 := 192) (by exact rfl) ?_ (by omega) (by omega)
  refine jT_fR [] 22 (y := 189) (pcN := 21) (dC := 0) (bc1 := 0) (bc2 := 0) (c1 := 7) (c2 := 192) (as := [(1, 9), (1, 0), (1, 9)]) (asC := [(1, 9), (1, 0), (1, 9)]) (LN := [(0, (4, 0)), (1, (0, x1)), (2, (0, 9)), (3, (0, 1))]) (stN := [(4, 0)]) (hsC := []) (v := (0, 1)) (st2 := [(0, 1), (4, 0)]) (jA_189_1513 (d := 0)) (by rfl) (by rfl) (by decide +kernel) (by rfl) (by rfl) (by omega) (by omega) (by omega) (by omega) rfl ?_
  refine jT_xifF (t := 40) (pcN := 24) jI_263_21 rfl (by decide +kernel) rfl rfl ?_
  refine jT_xiload_n (v := (0, 1)) (pcN := 25) jI_263_24 rfl rfl rfl ?_
  refine jT_xi2l (x := 1) (z := 1) (pcN := 26) jI_263_25 rfl (by decide +kernel) rfl ?_
  refine jT_xlconst (z := 0) (pcN := 27) jI_263_26 rfl rfl ?_
  refine jT_adv 1 (pcN := 30) (LN := [(0, (4, 0)), (1, (0, x1)), (2, (0, 9)), (3, (0, 1))]) (stN := [(1, 2), (1, 0), (1, 1), (4, 0)]) (hsN := jpA_1695) (c1 := 0) (s1 := 0) (c2 := 7) (s2 := 192) (by exact rfl) ?_ (by omega) (by omega)
  refine jT_fR [] 22 (y := 189) (pcN := 33) (dC := 0) (bc1 := 0) (bc2 := 0) (c1 := 7) (c2 := 192) (as := [(1, 1), (1, 0), (1, 2)]) (asC := [(1, 1), (1, 0), (1, 2)]) (LN := [(0, (4, 0)), (1, (0, x1)), (2, (0, 9)), (3, (0, 1))]) (stN := [(4, 0)]) (hsC := []) (v := (0, 1)) (st2 := [(0, 1), (4, 0)]) (jA_189_1298 (d := 0)) (by rfl) (by rfl) (by decide +kernel) (by rfl) (by rfl) (by omega) (by omega) (by omega) (by omega) rfl ?_
  refine jT_xifF (t := 40) (pcN := 36) jI_263_33 rfl (by decide +kernel) rfl rfl ?_
  refine jT_xiconst (k := 1) (pcN := 37) jI_263_36 rfl ?_
  refine jT_xgoto (pcN := 41) jI_263_37 rfl ?_
  refine jT_xiconst (k := 2) (pcN := 42) jI_263_41 rfl ?_
  refine jT_fR [0] 22 (y := 191) (pcN := 45) (dC := 0) (bc1 := 0) (bc2 := 0) (c1 := 7) (c2 := 192) (as := [(4, 0), (0, 1), (0, 2)]) (asC := [(4, 0), (0, 1), (0, 2)]) (LN := [(0, (4, 0)), (1, (0, x1)), (2, (0, 9)), (3, (0, 1))]) (stN := []) (hsC := [jgh]) (v := (0, 0)) (st2 := [(0, 0)]) (jA_191_49 (d := 0)) (by rfl) (by rfl) (by decide +kernel) (by rfl) (by rfl) (by omega) (by omega) (by omega) (by omega) rfl ?_
  refine jT_xifT (pcN := 50) jI_263_45 rfl (by decide +kernel) rfl ?_
  refine jT_xaload_n (v := (4, 0)) (pcN := 51) jI_263_50 rfl rfl rfl ?_
  refine jT_xiload_n (v := (0, x1)) (pcN := 52) jI_263_51 rfl rfl rfl ?_
  refine jT_fR [0, 1, 2, 3, 4, 5, 6, 7, 8, 9, 10, 11, 12, 13, 14, 15] 22 (y := 202) (pcN := 55) (dC := 1) (bc1 := 0) (bc2 := 0) (c1 := 7) (c2 := 192) (as := [(4, 0), (0, x1)]) (asC := [(4, 0), (0, x1)]) (LN := [(0, (4, 0)), (1, (0, x1)), (2, (0, 9)), (3, (0, 1))]) (stN := []) (hsC := jpA_130) (v := (9, 0)) (st2 := []) (jA_202_115 (d := 0) (by omega)) (by rfl) (by rfl) (by decide +kernel) (by rfl) (by rfl) (by omega) (by omega) (by omega) (by omega) rfl ?_
  refine jT_xaload_n (v := (4, 0)) (pcN := 56) jI_263_55 rfl rfl rfl ?_
  refine jT_xiload_n (v := (0, 9)) (pcN := 57) jI_263_56 rfl rfl rfl ?_
  refine jT_fR [] 22 (y := 264) (pcN := 60) (dC := 0) (bc1 := 0) (bc2 := 0) (c1 := 7) (c2 := 192) (as := [(0, 9)]) (asC := [(0, 9)]) (LN := [(0, (4, 0)), (1, (0, x1)), (2, (0, 9)), (3, (0, 1))]) (stN := [(4, 0)]) (hsC := []) (v := (1, 1000000000)) (st2 := [(1, 1000000000), (4, 0)]) (jA_264_1514 (d := 0)) (by rfl) (by rfl) (by decide +kernel) (by rfl) (by rfl) (by omega) (by omega) (by omega) (by omega) rfl ?_
  refine jT_xiload_n (v := (0, 1)) (pcN := 61) jI_263_60 rfl rfl rfl ?_
  refine jT_fA [0, 1, 2, 3, 4, 5, 6, 7, 8, 9, 10, 11, 12, 13, 14, 15, 16, 17, 18, 19, 20, 21] 22 (y := 265) (pcN := 64) (dC := 6) (bc1 := 7) (bc2 := 192) (c1 := 0) (c2 := 0) (as := [(4, 0), (1, 1000000000), (0, 1)]) (asC := [(4, 0), (1, 1000000000), (0, 1)]) (LN := [(0, (4, 0)), (1, (0, x1)), (2, (0, 9)), (3, (0, 1))]) (stN := []) (hsC := jpA_684) (ex := jpA_4354) (v := (1, 0)) (st2 := [(1, 0)]) (hs2 := jpA_4355) (jA_265_1521 (d := 0)) (by rfl) (by rfl) (by decide +kernel) (by rfl) (by rfl) (by omega) (by omega) (by omega) (by omega) rfl (by decide +kernel) ?_
  exact jT_ret rfl (by decide) (by show 22 ≤ 29; decide) (by omega) (by omega) ⟨rfl, rfl, rfl⟩
theorem jA_45_1523 {xs : List Int} {d : Nat} : jT xs (d + 1) 45 4 0 [(0, (4, 0)), (1, (4, 1)), (2, (1, 1)), (4, (1, 2400000000000))] [] jpA_625 0 0 (fun k v hsN => k = 0 ∧ v = (1, 0) ∧ hsN = jpA_625 ++ []) := by
  refine jT_advK 10 (pcN := 17) (LN := [(0, (4, 0)), (1, (4, 1)), (2, (1, 1)), (4, (1, 2400000000000))]) (stN := [(4, 1), (4, 0)]) (hsN := jpA_625) (c1 := 0) (s1 := 0) (c2 := 0) (s2 := 0) (by decide +kernel) ?_ (by omega) (by omega)
  refine jT_fR [0, 1] 4 (y := 39) (pcN := 20) (dC := 0) (bc1 := 0) (bc2 := 0) (c1 := 0) (c2 := 0) (as := [(4, 0), (4, 1)]) (asC := [(4, 0), (4, 1)]) (LN := [(0, (4, 0)), (1, (4, 1)), (2, (1, 1)), (4, (1, 2400000000000))]) (stN := []) (hsC := [jgh, (101, [], [0, 0, 0, 0, 0, 0])]) (v := (1, 0)) (st2 := [(1, 0)]) (jA_39_144 (d := 0)) (by rfl) (by rfl) (by decide +kernel) (by rfl) (by rfl) (by omega) (by omega) (by omega) (by omega) rfl ?_
  refine jT_advK 11 (pcN := 36) (LN := [(6, (1, 0)), (0, (4, 0)), (1, (4, 1)), (2, (1, 1)), (4, (1, 2400000000000))]) (stN := [(1, 1), (1, 0)]) (hsN := jpA_625) (c1 := 0) (s1 := 0) (c2 := 0) (s2 := 0) (by decide +kernel) ?_ (by omega) (by omega)
  refine jT_fR [] 4 (y := 373) (pcN := 39) (dC := 0) (bc1 := 0) (bc2 := 0) (c1 := 0) (c2 := 0) (as := [(1, 0), (1, 1)]) (asC := [(1, 0), (1, 1)]) (LN := [(6, (1, 0)), (0, (4, 0)), (1, (4, 1)), (2, (1, 1)), (4, (1, 2400000000000))]) (stN := []) (hsC := []) (v := (1, 0)) (st2 := [(1, 0)]) (jA_373_145 (d := 0)) (by rfl) (by rfl) (by decide +kernel) (by rfl) (by rfl) (by omega) (by omega) (by omega) (by omega) rfl ?_
  exact jT_ret rfl (by decide) (by show 4 ≤ 4; decide) (by omega) (by omega) ⟨rfl, rfl, rfl⟩
theorem jA_44_1524 {xs : List Int} {d : Nat} : jT xs (d + 2) 44 5 0 [(0, (4, 0)), (1, (4, 1)), (2, (1, 2400000000000))] [] jpA_626 0 0 (fun k v hsN => k = 0 ∧ v = (1, 0) ∧ hsN = jpA_626 ++ []) := by
  refine jT_advK 6 (pcN := 10) (LN := [(0, (4, 0)), (1, (4, 1)), (2, (1, 2400000000000))]) (stN := [(1, 2400000000000), (1, 1), (4, 4), (4, 0)]) (hsN := jpA_626) (c1 := 0) (s1 := 0) (c2 := 0) (s2 := 0) (by decide +kernel) ?_ (by omega) (by omega)
  refine jT_fR [0, 4, 2, 3] 5 (y := 45) (pcN := 13) (dC := 1) (bc1 := 0) (bc2 := 0) (c1 := 0) (c2 := 0) (as := [(4, 0), (4, 4), (1, 1), (1, 2400000000000)]) (asC := [(4, 0), (4, 1), (1, 1), (1, 2400000000000)]) (LN := [(0, (4, 0)), (1, (4, 1)), (2, (1, 2400000000000))]) (stN := []) (hsC := jpA_625) (v := (1, 0)) (st2 := [(1, 0)]) (jA_45_1523 (d := 0)) (by rfl) (by rfl) (by decide +kernel) (by rfl) (by rfl) (by omega) (by omega) (by omega) (by omega) rfl ?_
  exact jT_ret rfl (by decide) (by show 5 ≤ 5; decide) (by omega) (by omega) ⟨rfl, rfl, rfl⟩
theorem jA_43_1525 {xs : List Int} {d : Nat} : jT xs (d + 3) 43 5 0 [(0, (4, 0)), (1, (4, 1)), (2, (1, 1200000000000))] [] jpA_626 0 0 (fun k v hsN => k = 0 ∧ v = (1, 0) ∧ hsN = jpA_626 ++ []) := by
  refine jT_advK 5 (pcN := 7) (LN := [(0, (4, 0)), (1, (4, 1)), (2, (1, 1200000000000))]) (stN := [(1, 2400000000000), (4, 1), (4, 0)]) (hsN := jpA_626) (c1 := 0) (s1 := 0) (c2 := 0) (s2 := 0) (by decide +kernel) ?_ (by omega) (by omega)
  refine jT_fR [0, 1, 2, 3, 4] 5 (y := 44) (pcN := 10) (dC := 2) (bc1 := 0) (bc2 := 0) (c1 := 0) (c2 := 0) (as := [(4, 0), (4, 1), (1, 2400000000000)]) (asC := [(4, 0), (4, 1), (1, 2400000000000)]) (LN := [(0, (4, 0)), (1, (4, 1)), (2, (1, 1200000000000))]) (stN := []) (hsC := jpA_626) (v := (1, 0)) (st2 := [(1, 0)]) (jA_44_1524 (d := 0)) (by rfl) (by rfl) (by decide +kernel) (by rfl) (by rfl) (by omega) (by omega) (by omega) (by omega) rfl ?_
  refine jT_advK 3 (pcN := 13) (LN := [(0, (4, 0)), (1, (4, 1)), (2, (1, 1200000000000))]) (stN := [(0, 2), (1, 1)]) (hsN := jpA_626) (c1 := 0) (s1 := 0) (c2 := 0) (s2 := 0) (by decide +kernel) ?_ (by omega) (by omega)
  refine jT_fR [] 5 (y := 374) (pcN := 16) (dC := 1) (bc1 := 0) (bc2 := 0) (c1 := 0) (c2 := 0) (as := [(1, 1), (0, 2)]) (asC := [(1, 1), (0, 2)]) (LN := [(0, (4, 0)), (1, (4, 1)), (2, (1, 1200000000000))]) (stN := []) (hsC := []) (v := (1, 0)) (st2 := [(1, 0)]) (jA_374_178 (d := 0)) (by rfl) (by rfl) (by decide +kernel) (by rfl) (by rfl) (by omega) (by omega) (by omega) (by omega) rfl ?_
  exact jT_ret rfl (by decide) (by show 5 ≤ 5; decide) (by omega) (by omega) ⟨rfl, rfl, rfl⟩
theorem jA_108_1526 {xs : List Int} {d : Nat} : jT xs (d + 4) 108 16 0 [(0, (4, 0)), (1, (4, 1)), (2, (0, 9)), (3, (0, 2))] [] jpA_4325 0 0 (fun k v hsN => k = 0 ∧ v = (1, 0) ∧ hsN = jpA_4325 ++ []) := by
  refine jT_advK 95 (pcN := 40) (LN := [(6, (0, 9)), (4, (1, 1200000000000)), (0, (4, 0)), (1, (4, 1)), (2, (0, 9)), (3, (0, 2))]) (stN := [(1, 1200000000000), (4, 1), (4, 2)]) (hsN := jpA_4325) (c1 := 0) (s1 := 0) (c2 := 0) (s2 := 0) (by decide +kernel) ?_ (by omega) (by omega)
  refine jT_fR [2, 1, 14, 15, 13] 16 (y := 43) (pcN := 43) (dC := 3) (bc1 := 0) (bc2 := 0) (c1 := 0) (c2 := 0) (as := [(4, 2), (4, 1), (1, 1200000000000)]) (asC := [(4, 0), (4, 1), (1, 1200000000000)]) (LN := [(6, (0, 9)), (4, (1, 1200000000000)), (0, (4, 0)), (1, (4, 1)), (2, (0, 9)), (3, (0, 2))]) (stN := []) (hsC := jpA_626) (v := (1, 0)) (st2 := [(1, 0)]) (jA_43_1525 (d := 0)) (by rfl) (by rfl) (by decide +kernel) (by rfl) (by rfl) (by omega) (by omega) (by omega) (by omega) rfl ?_
  exact jT_ret rfl (by decide) (by show 16 ≤ 16; decide) (by omega) (by omega) ⟨rfl, rfl, rfl⟩
theorem jA_140_1527 {xs : List Int} {d : Nat} {x1 : Int} (h_x1 : 0 ≤ x1 ∧ x1 ≤ 7) : jT xs (d + 5) 140 21 0 [(0, (4, 0)), (1, (0, x1)), (2, (0, 9)), (3, (0, 2))] [] jpA_3958 0 0 (fun k v hsN => k = 0 ∧ v = (1, 0) ∧ hsN = jpA_3958 ++ []) := by
  refine jT_xaload_n (v := (4, 0)) (pcN := 1) jI_140_0 rfl rfl rfl ?_
  refine jT_xiload_n (v := (0, x1)) (pcN := 2) jI_140_1 rfl rfl rfl ?_
  refine jT_xbipush (k := 8) (pcN := 4) jI_140_2 (by decide) rfl ?_
  refine jT_fR [0] 21 (y := 115) (pcN := 7) (dC := 0) (bc1 := 0) (bc2 := 0) (c1 := 0) (c2 := 0) (as := [(4, 0), (0, x1), (0, 8)]) (asC := [(4, 0), (0, x1), (0, 8)]) (LN := [(0, (4, 0)), (1, (0, x1)), (2, (0, 9)), (3, (0, 2))]) (stN := []) (hsC := [jgh]) (v := (9, 0)) (st2 := []) (jA_115_9 (d := 0) (by omega)) (by rfl) (by rfl) (by decide +kernel) (by rfl) (by rfl) (by omega) (by omega) (by omega) (by omega) rfl ?_
  refine jT_xaload_n (v := (4, 0)) (pcN := 8) jI_140_7 rfl rfl rfl ?_
  refine jT_xiload_n (v := (0, 9)) (pcN := 9) jI_140_8 rfl rfl rfl ?_
  refine jT_xiconst (k := 0) (pcN := 10) jI_140_9 rfl ?_
  refine jT_xbipush (k := 9) (pcN := 12) jI_140_10 (by decide) rfl ?_
  refine jT_fR [0] 21 (y := 116) (pcN := 15) (dC := 0) (bc1 := 0) (bc2 := 0) (c1 := 0) (c2 := 0) (as := [(4, 0), (0, 9), (0, 0), (0, 9)]) (asC := [(4, 0), (0, 9), (0, 0), (0, 9)]) (LN := [(0, (4, 0)), (1, (0, x1)), (2, (0, 9)), (3, (0, 2))]) (stN := []) (hsC := [jgh]) (v := (9, 0)) (st2 := []) (jA_116_1507 (d := 0)) (by rfl) (by rfl) (by decide +kernel) (by rfl) (by rfl) (by omega) (by omega) (by omega) (by omega) rfl ?_
  refine jT_xaload_n (v := (4, 0)) (pcN := 16) jI_140_15 rfl rfl rfl ?_
  refine jT_xiload_n (v := (0, 2)) (pcN := 17) jI_140_16 rfl rfl rfl ?_
  refine jT_xiconst (k := 0) (pcN := 18) jI_140_17 rfl ?_
  refine jT_xiconst (k := 2) (pcN := 19) jI_140_18 rfl ?_
  refine jT_fR [0] 21 (y := 116) (pcN := 22) (dC := 0) (bc1 := 0) (bc2 := 0) (c1 := 0) (c2 := 0) (as := [(4, 0), (0, 2), (0, 0), (0, 2)]) (asC := [(4, 0), (0, 2), (0, 0), (0, 2)]) (LN := [(0, (4, 0)), (1, (0, x1)), (2, (0, 9)), (3, (0, 2))]) (stN := []) (hsC := [jgh]) (v := (9, 0)) (st2 := []) (jA_116_1301 (d := 0)) (by rfl) (by rfl) (by decide +kernel) (by rfl) (by rfl) (by omega) (by omega) (by omega) (by omega) rfl ?_
  refine jT_xaload_n (v := (4, 0)) (pcN := 23) jI_140_22 rfl rfl rfl ?_
  refine jT_xaload_n (v := (4, 0)) (pcN := 24) jI_140_23 rfl rfl rfl ?_
  refine jT_xgetf (a := 0) (t := 1) (ci := 13) (fi := 11) (c := jzA_5) (v := (4, 11)) (pcN := 27) jI_140_24 rfl rfl rfl rfl rfl rfl rfl ?_
  refine jT_xiload_n (v := (0, x1)) (pcN := 28) jI_140_27 rfl rfl rfl ?_
  refine jT_fR [11, 14, 15, 16, 17, 18, 19] 21 (y := 57) (pcN := 31) (dC := 0) (bc1 := 0) (bc2 := 0) (c1 := 0) (c2 := 0) (as := [(4, 11), (0, x1)]) (asC := [(4, 0), (0, x1)]) (LN := [(0, (4, 0)), (1, (0, x1)), (2, (0, 9)), (3, (0, 2))]) (stN := [(4, 0)]) (hsC := jpA_47) (v := (4, 6)) (st2 := [(4, 19), (4, 0)]) (jA_57_108 (d := 0) (by omega)) (by rfl) (by rfl) (by decide +kernel) (by rfl) (by rfl) (by omega) (by omega) (by omega) (by omega) rfl ?_
  refine jT_xiload_n (v := (0, 9)) (pcN := 32) jI_140_31 rfl rfl rfl ?_
  refine jT_xiload_n (v := (0, 2)) (pcN := 33) jI_140_32 rfl rfl rfl ?_
  refine jT_fR [0, 19, 1, 2, 3, 4, 5, 6, 7, 8, 9, 10, 11, 20, 12, 13] 21 (y := 108) (pcN := 36) (dC := 4) (bc1 := 0) (bc2 := 0) (c1 := 0) (c2 := 0) (as := [(4, 0), (4, 19), (0, 9), (0, 2)]) (asC := [(4, 0), (4, 1), (0, 9), (0, 2)]) (LN := [(0, (4, 0)), (1, (0, x1)), (2, (0, 9)), (3, (0, 2))]) (stN := []) (hsC := jpA_4325) (v := (1, 0)) (st2 := [(1, 0)]) (jA_108_1526 (d := 0)) (by rfl) (by rfl) (by decide +kernel) (by rfl) (by rfl) (by omega) (by omega) (by omega) (by omega) rfl ?_
  exact jT_ret rfl (by decide) (by show 21 ≤ 21; decide) (by omega) (by omega) ⟨rfl, rfl, rfl⟩
theorem jA_347_1528 {xs : List Int} {d : Nat} {x1 : Int} (h_x1 : 0 ≤ x1 ∧ x1 ≤ 7) : jT xs (d + 6) 347 22 0 [(0, (4, 0)), (1, (0, x1)), (2, (0, 9)), (3, (0, 2)), (4, (4, 1))] [] jpA_4038 0 0 (fun k v hsN => k = 0 ∧ v = (0, 0) ∧ hsN = jpA_4038 ++ []) := by
  refine jT_xaload (v := (4, 1)) (pcN := 2) jI_347_0 rfl rfl rfl ?_
  refine jT_xiconst (k := 0) (pcN := 3) jI_347_2 rfl ?_
  refine jT_xaload_n (v := (4, 0)) (pcN := 4) jI_347_3 rfl rfl rfl ?_
  refine jT_xiload_n (v := (0, x1)) (pcN := 5) jI_347_4 rfl rfl rfl ?_
  refine jT_xiload_n (v := (0, 9)) (pcN := 6) jI_347_5 rfl rfl rfl ?_
  refine jT_xiload_n (v := (0, 2)) (pcN := 7) jI_347_6 rfl rfl rfl ?_
  refine jT_fR [0, 2, 3, 4, 5, 6, 7, 8, 9, 10, 11, 12, 13, 14, 15, 16, 17, 18, 19, 20, 21] 22 (y := 140) (pcN := 10) (dC := 5) (bc1 := 0) (bc2 := 0) (c1 := 0) (c2 := 0) (as := [(4, 0), (0, x1), (0, 9), (0, 2)]) (asC := [(4, 0), (0, x1), (0, 9), (0, 2)]) (LN := [(0, (4, 0)), (1, (0, x1)), (2, (0, 9)), (3, (0, 2)), (4, (4, 1))]) (stN := [(0, 0), (4, 1)]) (hsC := jpA_3958) (v := (1, 0)) (st2 := [(1, 0), (0, 0), (4, 1)]) (jA_140_1527 (d := 0) (by omega)) (by rfl) (by rfl) (by decide +kernel) (by rfl) (by rfl) (by omega) (by omega) (by omega) (by omega) rfl ?_
  refine jT_adv 1 (pcN := 11) (LN := [(0, (4, 0)), (1, (0, x1)), (2, (0, 9)), (3, (0, 2)), (4, (4, 1))]) (stN := []) (hsN := jpA_4038) (c1 := 0) (s1 := 0) (c2 := 0) (s2 := 0) (by exact rfl) ?_ (by omega) (by omega)
  refine jT_xgoto (pcN := 22) jI_347_11 rfl ?_
  refine jT_xiconst (k := 0) (pcN := 23) jI_347_22 rfl ?_
  exact jT_ret rfl (by decide) (by show 22 ≤ 22; decide) (by omega) (by omega) ⟨rfl, rfl, rfl⟩
theorem jA_265_1529 {xs : List Int} {d : Nat} : jT xs (d + 7) 265 22 0 [(0, (4, 0)), (1, (1, 1000000000)), (3, (0, 2))] [] jpA_684 10 360 (fun k v hsN => k = 0 ∧ v = (1, 0) ∧ hsN = jpA_684 ++ jpA_3654) := by
  refine jT_advK 4 (pcN := 6) (LN := [(0, (4, 0)), (1, (1, 1000000000)), (3, (0, 2))]) (stN := [(1, 1200000000000), (4, 0)]) (hsN := jpA_684) (c1 := 0) (s1 := 0) (c2 := 10) (s2 := 360) (by decide +kernel) ?_ (by omega) (by omega)
  refine jT_fA [0, 1, 2, 3, 4, 5, 6, 7, 8, 9, 10, 11, 12, 13, 14, 15] 22 (y := 218) (pcN := 9) (dC := 0) (bc1 := 1) (bc2 := 6) (c1 := 9) (c2 := 354) (as := [(4, 0), (1, 1200000000000)]) (asC := [(4, 0), (1, 1200000000000)]) (LN := [(0, (4, 0)), (1, (1, 1000000000)), (3, (0, 2))]) (stN := []) (hsC := jpA_147) (ex := [(101, [], [0, 0, 0, 0, 0, 0])]) (v := (4, 16)) (st2 := [(4, 22)]) (hs2 := jpA_3652) (jA_218_1515 (d := 0)) (by rfl) (by rfl) (by decide +kernel) (by rfl) (by rfl) (by omega) (by omega) (by omega) (by omega) rfl (by decide +kernel) ?_
  refine jT_advK 8 (pcN := 23) (LN := [(4, (4, 22)), (0, (4, 0)), (1, (1, 1000000000)), (3, (0, 2))]) (stN := [(1, 1), (4, 22), (4, 0)]) (hsN := jpA_3652) (c1 := 0) (s1 := 0) (c2 := 9) (s2 := 354) (by decide +kernel) ?_ (by omega) (by omega)
  refine jT_fA [0, 22, 1, 2, 3, 4, 5, 6, 7, 8, 9, 10, 11, 12, 13, 14, 15, 16, 17, 18, 19, 20, 21] 23 (y := 216) (pcN := 26) (dC := 6) (bc1 := 9) (bc2 := 354) (c1 := 0) (c2 := 0) (as := [(4, 0), (4, 22), (1, 1)]) (asC := [(4, 0), (4, 1), (1, 1)]) (LN := [(4, (4, 22)), (0, (4, 0)), (1, (1, 1000000000)), (3, (0, 2))]) (stN := []) (hsC := jpA_987) (ex := jpA_839) (v := (1, 0)) (st2 := [(1, 0)]) (hs2 := jpA_3653) (jA_216_228 (d := 0)) (by rfl) (by rfl) (by decide +kernel) (by rfl) (by rfl) (by omega) (by omega) (by omega) (by omega) rfl (by decide +kernel) ?_
  exact jT_ret rfl (by decide) (by show 22 ≤ 32; decide) (by omega) (by omega) ⟨rfl, rfl, rfl⟩
theorem jA_263_1530 {xs : List Int} {d : Nat} {x1 : Int} (h_x1 : 0 ≤ x1 ∧ x1 ≤ 7) : jT xs (d + 8) 263 22 0 [(0, (4, 0)), (1, (0, x1)), (2, (0, 9)), (3, (0, 2))] [] jpA_1695 10 360 (fun k v hsN => k = 0 ∧ v = (1, 0) ∧ hsN = jpA_1695 ++ jpA_3654) := by
  refine jT_xaload_n (v := (4, 0)) (pcN := 1) jI_263_0 rfl rfl rfl ?_
  refine jT_xiload_n (v := (0, x1)) (pcN := 2) jI_263_1 rfl rfl rfl ?_
  refine jT_fR [] 22 (y := 188) (pcN := 5) (dC := 1) (bc1 := 0) (bc2 := 0) (c1 := 10) (c2 := 360) (as := [(0, x1)]) (asC := [(0, x1)]) (LN := [(0, (4, 0)), (1, (0, x1)), (2, (0, 9)), (3, (0, 2))]) (stN := [(4, 0)]) (hsC := []) (v := (0, 1)) (st2 := [(0, 1), (4, 0)]) (jA_188_13 (d := 0) (by omega)) (by rfl) (by rfl) (by decide +kernel) (by rfl) (by rfl) (by omega) (by omega) (by omega) (by omega) rfl ?_
  refine jT_fR [0, 1, 2, 3, 4, 5, 6, 7, 8, 9, 10, 11, 12, 13, 14, 15] 22 (y := 190) (pcN := 8) (dC := 1) (bc1 := 0) (bc2 := 0) (c1 := 10) (c2 := 360) (as := [(4, 0), (0, 1)]) (asC := [(4, 0), (0, 1)]) (LN := [(0, (4, 0)), (1, (0, x1)), (2, (0, 9)), (3, (0, 2))]) (stN := []) (hsC := jpA_22) (v := (0, 0)) (st2 := [(0, 0)]) (jA_190_39 (d := 0)) (by rfl) (by rfl) (by decide +kernel) (by rfl) (by rfl) (by omega) (by omega) (by omega) (by omega) rfl ?_
  refine jT_xifF (t := 48) (pcN := 11) jI_263_8 rfl (by decide +kernel) rfl rfl ?_
  refine jT_xaload_n (v := (4, 0)) (pcN := 12) jI_263_11 rfl rfl rfl ?_
  refine jT_xiload_n (v := (0, 9)) (pcN := 13) jI_263_12 rfl rfl rfl ?_
  refine jT_xi2l (x := 9) (z := 9) (pcN := 14) jI_263_13 rfl (by decide +kernel) rfl ?_
  refine jT_xlconst (z := 0) (pcN := 15) jI_263_14 rfl rfl ?_
  refine jT_adv 1 (pcN := 18) (LN := [(0, (4, 0)), (1, (0, x1)), (2, (0, 9)), (3, (0, 2))]) (stN := [(1, 9), (1, 0), (1, 9), (4, 0)]) (hsN := jpA_1695) (c1 := 0) (s1 := 0) (c2 := 10) (s2 := 360) (by exact rfl) ?_ (by omega) (by omega)
  refine jT_fR [] 22 (y := 189) (pcN := 21) (dC := 0) (bc1 := 0) (bc2 := 0) (c1 := 10) (c2 := 360) (as := [(1, 9), (1, 0), (1, 9)]) (asC := [(1, 9), (1, 0), (1, 9)]) (LN := [(0, (4, 0)), (1, (0, x1)), (2, (0, 9)), (3, (0, 2))]) (stN := [(4, 0)]) (hsC := []) (v := (0, 1)) (st2 := [(0, 1), (4, 0)]) (jA_189_1513 (d := 0)) (by rfl) (by rfl) (by decide +kernel) (by rfl) (by rfl) (by omega) (by omega) (by omega) (by omega) rfl ?_
  refine jT_xifF (t := 40) (pcN := 24) jI_263_21 rfl (by decide +kernel) rfl rfl ?_
  refine jT_xiload_n (v := (0, 2)) (pcN := 25) jI_263_24 rfl rfl rfl ?_
  refine jT_xi2l (x := 2) (z := 2) (pcN := 26) jI_263_25 rfl (by decide +kernel) rfl ?_
  refine jT_xlconst (z := 0) (pcN := 27) jI_263_26 rfl rfl ?_
  refine jT_adv 1 (pcN := 30) (LN := [(0, (4, 0)), (1, (0, x1)), (2, (0, 9)), (3, (0, 2))]) (stN := [(1, 2), (1, 0), (1, 2), (4, 0)]) (hsN := jpA_1695) (c1 := 0) (s1 := 0) (c2 := 10) (s2 := 360) (by exact rfl) ?_ (by omega) (by omega)
  refine jT_fR [] 22 (y := 189) (pcN := 33) (dC := 0) (bc1 := 0) (bc2 := 0) (c1 := 10) (c2 := 360) (as := [(1, 2), (1, 0), (1, 2)]) (asC := [(1, 2), (1, 0), (1, 2)]) (LN := [(0, (4, 0)), (1, (0, x1)), (2, (0, 9)), (3, (0, 2))]) (stN := [(4, 0)]) (hsC := []) (v := (0, 1)) (st2 := [(0, 1), (4, 0)]) (jA_189_1305 (d := 0)) (by rfl) (by rfl) (by decide +kernel) (by rfl) (by rfl) (by omega) (by omega) (by omega) (by omega) rfl ?_
  refine jT_xifF (t := 40) (pcN := 36) jI_263_33 rfl (by decide +kernel) rfl rfl ?_
  refine jT_xiconst (k := 1) (pcN := 37) jI_263_36 rfl ?_
  refine jT_xgoto (pcN := 41) jI_263_37 rfl ?_
  refine jT_xiconst (k := 2) (pcN := 42) jI_263_41 rfl ?_
  refine jT_fR [0] 22 (y := 191) (pcN := 45) (dC := 0) (bc1 := 0) (bc2 := 0) (c1 := 10) (c2 := 360) (as := [(4, 0), (0, 1), (0, 2)]) (asC := [(4, 0), (0, 1), (0, 2)]) (LN := [(0, (4, 0)), (1, (0, x1)), (2, (0, 9)), (3, (0, 2))]) (stN := []) (hsC := [jgh]) (v := (0, 0)) (st2 := [(0, 0)]) (jA_191_49 (d := 0)) (by rfl) (by rfl) (by decide +kernel) (by rfl) (by rfl) (by omega) (by omega) (by omega) (by omega) rfl ?_
  refine jT_xifT (pcN := 50) jI_263_45 rfl (by decide +kernel) rfl ?_
  refine jT_xaload_n (v := (4, 0)) (pcN := 51) jI_263_50 rfl rfl rfl ?_
  refine jT_xiload_n (v := (0, x1)) (pcN := 52) jI_263_51 rfl rfl rfl ?_
  refine jT_fR [0, 1, 2, 3, 4, 5, 6, 7, 8, 9, 10, 11, 12, 13, 14, 15] 22 (y := 202) (pcN := 55) (dC := 1) (bc1 := 0) (bc2 := 0) (c1 := 10) (c2 := 360) (as := [(4, 0), (0, x1)]) (asC := [(4, 0), (0, x1)]) (LN := [(0, (4, 0)), (1, (0, x1)), (2, (0, 9)), (3, (0, 2))]) (stN := []) (hsC := jpA_130) (v := (9, 0)) (st2 := []) (jA_202_115 (d := 0) (by omega)) (by rfl) (by rfl) (by decide +kernel) (by rfl) (by rfl) (by omega) (by omega) (by omega) (by omega) rfl ?_
  refine jT_xaload_n (v := (4, 0)) (pcN := 56) jI_263_55 rfl rfl rfl ?_
  refine jT_xiload_n (v := (0, 9)) (pcN := 57) jI_263_56 rfl rfl rfl ?_
  refine jT_fR [] 22 (y := 264) (pcN := 60) (dC := 0) (bc1 := 0) (bc2 := 0) (c1 := 10) (c2 := 360) (as := [(0, 9)]) (asC := [(0, 9)]) (LN := [(0, (4, 0)), (1, (0, x1)), (2, (0, 9)), (3, (0, 2))]) (stN := [(4, 0)]) (hsC := []) (v := (1, 1000000000)) (st2 := [(1, 1000000000), (4, 0)]) (jA_264_1514 (d := 0)) (by rfl) (by rfl) (by decide +kernel) (by rfl) (by rfl) (by omega) (by omega) (by omega) (by omega) rfl ?_
  refine jT_xiload_n (v := (0, 2)) (pcN := 61) jI_263_60 rfl rfl rfl ?_
  refine jT_fA [0, 1, 2, 3, 4, 5, 6, 7, 8, 9, 10, 11, 12, 13, 14, 15, 16, 17, 18, 19, 20, 21] 22 (y := 265) (pcN := 64) (dC := 7) (bc1 := 10) (bc2 := 360) (c1 := 0) (c2 := 0) (as := [(4, 0), (1, 1000000000), (0, 2)]) (asC := [(4, 0), (1, 1000000000), (0, 2)]) (LN := [(0, (4, 0)), (1, (0, x1)), (2, (0, 9)), (3, (0, 2))]) (stN := []) (hsC := jpA_684) (ex := jpA_3654) (v := (1, 0)) (st2 := [(1, 0)]) (hs2 := jpA_3655) (jA_265_1529 (d := 0)) (by rfl) (by rfl) (by decide +kernel) (by rfl) (by rfl) (by omega) (by omega) (by omega) (by omega) rfl (by decide +kernel) ?_
  exact jT_ret rfl (by decide) (by show 22 ≤ 32; decide) (by omega) (by omega) ⟨rfl, rfl, rfl⟩
theorem jA_116_1531 {xs : List Int} {d : Nat} {x3 : Int} (h_x3 : 3 ≤ x3 ∧ x3 ≤ 2147483647) : jT xs d 116 1 0 [(0, (4, 0)), (1, (0, x3)), (2, (0, 0)), (3, (0, 2))] [] [jgh] 1 6 (fun k v hsN => k = 1 ∧ v = (0, 1) ∧ hsN = [jgh] ++ []) := by
  refine jT_xiload_n (v := (0, x3)) (pcN := 1) jI_116_0 rfl rfl rfl ?_
  refine jT_xiload_n (v := (0, 0)) (pcN := 2) jI_116_1 rfl rfl rfl ?_
  refine jT_icF (a := x3) (b := 0) (t := 10) (by rfl) (by rfl) (by rfl) (jw_idd (by omega) (by omega)) (jw_idd (by omega) (by omega)) (by simp only [jcP] <;> omega) ?_
  refine jT_xiload_n (v := (0, x3)) (pcN := 6) jI_116_5 rfl rfl rfl ?_
  refine jT_xiload_n (v := (0, 2)) (pcN := 7) jI_116_6 rfl rfl rfl ?_
  refine jT_icF (a := x3) (b := 2) (t := 21) (by rfl) (by rfl) (by rfl) (jw_idd (by omega) (by omega)) (jw_idd (by omega) (by omega)) (by simp only [jcP] <;> omega) ?_
  exact jT_ret (c1 := 1) (s1 := 6) rfl (by decide) (by show 1 ≤ 1; decide) (by omega) (by omega) ⟨rfl, rfl, rfl⟩
theorem jA_140_1532 {xs : List Int} {d : Nat} {x1 x2 x3 : Int} (h_x1 : 0 ≤ x1 ∧ x1 ≤ 7) (h_x2 : 0 ≤ x2 ∧ x2 ≤ 9) (h_x3 : 3 ≤ x3 ∧ x3 ≤ 2147483647) : jT xs (d + 1) 140 12 0 [(0, (4, 0)), (1, (0, x1)), (2, (0, x2)), (3, (0, x3))] [] jpA_6 1 6 (fun k v hsN => k = 1 ∧ v = (0, 1) ∧ hsN = jpA_6 ++ []) := by
  refine jT_xaload_n (v := (4, 0)) (pcN := 1) jI_140_0 rfl rfl rfl ?_
  refine jT_xiload_n (v := (0, x1)) (pcN := 2) jI_140_1 rfl rfl rfl ?_
  refine jT_xbipush (k := 8) (pcN := 4) jI_140_2 (by decide) rfl ?_
  refine jT_fR [0] 12 (y := 115) (pcN := 7) (dC := 0) (bc1 := 0) (bc2 := 0) (c1 := 1) (c2 := 6) (as := [(4, 0), (0, x1), (0, 8)]) (asC := [(4, 0), (0, x1), (0, 8)]) (LN := [(0, (4, 0)), (1, (0, x1)), (2, (0, x2)), (3, (0, x3))]) (stN := []) (hsC := [jgh]) (v := (9, 0)) (st2 := []) (jA_115_9 (d := 0) (by omega)) (by rfl) (by rfl) (by decide +kernel) (by rfl) (by rfl) (by omega) (by omega) (by omega) (by omega) rfl ?_
  refine jT_xaload_n (v := (4, 0)) (pcN := 8) jI_140_7 rfl rfl rfl ?_
  refine jT_xiload_n (v := (0, x2)) (pcN := 9) jI_140_8 rfl rfl rfl ?_
  refine jT_xiconst (k := 0) (pcN := 10) jI_140_9 rfl ?_
  refine jT_xbipush (k := 9) (pcN := 12) jI_140_10 (by decide) rfl ?_
  refine jT_fR [0] 12 (y := 116) (pcN := 15) (dC := 0) (bc1 := 0) (bc2 := 0) (c1 := 1) (c2 := 6) (as := [(4, 0), (0, x2), (0, 0), (0, 9)]) (asC := [(4, 0), (0, x2), (0, 0), (0, 9)]) (LN := [(0, (4, 0)), (1, (0, x1)), (2, (0, x2)), (3, (0, x3))]) (stN := []) (hsC := [jgh]) (v := (9, 0)) (st2 := []) (jA_116_1271 (d := 0) (by omega)) (by rfl) (by rfl) (by decide +kernel) (by rfl) (by rfl) (by omega) (by omega) (by omega) (by omega) rfl ?_
  refine jT_xaload_n (v := (4, 0)) (pcN := 16) jI_140_15 rfl rfl rfl ?_
  refine jT_xiload_n (v := (0, x3)) (pcN := 17) jI_140_16 rfl rfl rfl ?_
  refine jT_xiconst (k := 0) (pcN := 18) jI_140_17 rfl ?_
  refine jT_xiconst (k := 2) (pcN := 19) jI_140_18 rfl ?_
  exact jT_fX [0] 12 (y := 116) (pcN := 22) (dC := 0) (bc1 := 1) (bc2 := 6) (as := [(4, 0), (0, x3), (0, 0), (0, 2)]) (asC := [(4, 0), (0, x3), (0, 0), (0, 2)]) (LN := [(0, (4, 0)), (1, (0, x1)), (2, (0, x2)), (3, (0, x3))]) (stN := []) (hsC := [jgh]) (e := 1) (jA_116_1531 (d := 0) (by omega)) (by rfl) (by rfl) (by decide +kernel) (by rfl) (by rfl) (by omega) (by omega) (by omega) (by omega) ⟨rfl, ⟨rfl, rfl, rfl⟩⟩
theorem jA_347_1533 {xs : List Int} {d : Nat} {x1 x2 x3 : Int} (h_x1 : 0 ≤ x1 ∧ x1 ≤ 7) (h_x2 : 0 ≤ x2 ∧ x2 ≤ 9) (h_x3 : 3 ≤ x3 ∧ x3 ≤ 2147483647) : jT xs (d + 2) 347 13 0 [(0, (4, 0)), (1, (0, x1)), (2, (0, x2)), (3, (0, x3)), (4, (4, 1))] [] jpA_15 1 6 (fun k v hsN => k = 0 ∧ v = (0, 2) ∧ hsN = jpA_15 ++ []) := by
  refine jT_xaload (v := (4, 1)) (pcN := 2) jI_347_0 rfl rfl rfl ?_
  refine jT_xiconst (k := 0) (pcN := 3) jI_347_2 rfl ?_
  refine jT_xaload_n (v := (4, 0)) (pcN := 4) jI_347_3 rfl rfl rfl ?_
  refine jT_xiload_n (v := (0, x1)) (pcN := 5) jI_347_4 rfl rfl rfl ?_
  refine jT_xiload_n (v := (0, x2)) (pcN := 6) jI_347_5 rfl rfl rfl ?_
  refine jT_xiload_n (v := (0, x3)) (pcN := 7) jI_347_6 rfl rfl rfl ?_
  exact jT_fX [0, 2, 3, 4, 5, 6, 7, 8, 9, 10, 11, 12] 13 (y := 140) (pcN := 10) (dC := 1) (bc1 := 1) (bc2 := 6) (as := [(4, 0), (0, x1), (0, x2), (0, x3)]) (asC := [(4, 0), (0, x1), (0, x2), (0, x3)]) (LN := [(0, (4, 0)), (1, (0, x1)), (2, (0, x2)), (3, (0, x3)), (4, (4, 1))]) (stN := [(0, 0), (4, 1)]) (hsC := jpA_6) (e := 1) (jA_140_1532 (d := 0) (by omega) (by omega) (by omega)) (by rfl) (by rfl) (by decide +kernel) (by rfl) (by rfl) (by omega) (by omega) (by omega) (by omega) (show _ from ⟨rfl, rfl, rfl⟩)
theorem jA_263_1534 {xs : List Int} {d : Nat} {x1 x2 x3 : Int} (h_x1 : 0 ≤ x1 ∧ x1 ≤ 7) (h_x2 : 0 ≤ x2 ∧ x2 ≤ 9) (h_x3 : 3 ≤ x3 ∧ x3 ≤ 2147483647) : jT xs (d + 2) 263 16 0 [(0, (4, 0)), (1, (0, x1)), (2, (0, x2)), (3, (0, x3))] [] jpA_22 0 0 (fun k v hsN => k = 0 ∧ v = (1, 0) ∧ hsN = jpA_361) := by
  refine jT_xaload_n (v := (4, 0)) (pcN := 1) jI_263_0 rfl rfl rfl ?_
  refine jT_xiload_n (v := (0, x1)) (pcN := 2) jI_263_1 rfl rfl rfl ?_
  refine jT_fR [] 16 (y := 188) (pcN := 5) (dC := 1) (bc1 := 0) (bc2 := 0) (c1 := 0) (c2 := 0) (as := [(0, x1)]) (asC := [(0, x1)]) (LN := [(0, (4, 0)), (1, (0, x1)), (2, (0, x2)), (3, (0, x3))]) (stN := [(4, 0)]) (hsC := []) (v := (0, 1)) (st2 := [(0, 1), (4, 0)]) (jA_188_13 (d := 0) (by omega)) (by rfl) (by rfl) (by decide +kernel) (by rfl) (by rfl) (by omega) (by omega) (by omega) (by omega) rfl ?_
  refine jT_fR [0, 1, 2, 3, 4, 5, 6, 7, 8, 9, 10, 11, 12, 13, 14, 15] 16 (y := 190) (pcN := 8) (dC := 1) (bc1 := 0) (bc2 := 0) (c1 := 0) (c2 := 0) (as := [(4, 0), (0, 1)]) (asC := [(4, 0), (0, 1)]) (LN := [(0, (4, 0)), (1, (0, x1)), (2, (0, x2)), (3, (0, x3))]) (stN := []) (hsC := jpA_22) (v := (0, 0)) (st2 := [(0, 0)]) (jA_190_39 (d := 0)) (by rfl) (by rfl) (by decide +kernel) (by rfl) (by rfl) (by omega) (by omega) (by omega) (by omega) rfl ?_
  refine jT_xifF (t := 48) (pcN := 11) jI_263_8 rfl (by decide +kernel) rfl rfl ?_
  refine jT_xaload_n (v := (4, 0)) (pcN := 12) jI_263_11 rfl rfl rfl ?_
  refine jT_xiload_n (v := (0, x2)) (pcN := 13) jI_263_12 rfl rfl rfl ?_
  refine jT_xi2l (x := x2) (z := x2) (pcN := 14) jI_263_13 rfl (jw_idd (by omega) (by omega)) rfl ?_
  refine jT_xlconst (z := 0) (pcN := 15) jI_263_14 rfl rfl ?_
  refine jT_adv 1 (pcN := 18) (LN := [(0, (4, 0)), (1, (0, x1)), (2, (0, x2)), (3, (0, x3))]) (stN := [(1, 9), (1, 0), (1, x2), (4, 0)]) (hsN := jpA_22) (c1 := 0) (s1 := 0) (c2 := 0) (s2 := 0) (by exact rfl) ?_ (by omega) (by omega)
  refine jT_fR [] 16 (y := 189) (pcN := 21) (dC := 0) (bc1 := 0) (bc2 := 0) (c1 := 0) (c2 := 0) (as := [(1, x2), (1, 0), (1, 9)]) (asC := [(1, x2), (1, 0), (1, 9)]) (LN := [(0, (4, 0)), (1, (0, x1)), (2, (0, x2)), (3, (0, x3))]) (stN := [(4, 0)]) (hsC := []) (v := (0, 1)) (st2 := [(0, 1), (4, 0)]) (jT_in_ok (d := 0) (v := x2) (lo := 0) (hi := 9) (by omega) (by omega) (by omega) (by omega) (by omega)) (by rfl) (by rfl) (by decide +kernel) (by rfl) (by rfl) (by omega) (by omega) (by omega) (by omega) rfl ?_
  refine jT_xifF (t := 40) (pcN := 24) jI_263_21 rfl (by decide +kernel) rfl rfl ?_
  refine jT_xiload_n (v := (0, x3)) (pcN := 25) jI_263_24 rfl rfl rfl ?_
  refine jT_xi2l (x := x3) (z := x3) (pcN := 26) jI_263_25 rfl (jw_idd (by omega) (by omega)) rfl ?_
  refine jT_xlconst (z := 0) (pcN := 27) jI_263_26 rfl rfl ?_
  refine jT_adv 1 (pcN := 30) (LN := [(0, (4, 0)), (1, (0, x1)), (2, (0, x2)), (3, (0, x3))]) (stN := [(1, 2), (1, 0), (1, x3), (4, 0)]) (hsN := jpA_22) (c1 := 0) (s1 := 0) (c2 := 0) (s2 := 0) (by exact rfl) ?_ (by omega) (by omega)
  refine jT_fR [] 16 (y := 189) (pcN := 33) (dC := 0) (bc1 := 0) (bc2 := 0) (c1 := 0) (c2 := 0) (as := [(1, x3), (1, 0), (1, 2)]) (asC := [(1, x3), (1, 0), (1, 2)]) (LN := [(0, (4, 0)), (1, (0, x1)), (2, (0, x2)), (3, (0, x3))]) (stN := [(4, 0)]) (hsC := []) (v := (0, 0)) (st2 := [(0, 0), (4, 0)]) (jT_in_hi (d := 0) (v := x3) (lo := 0) (hi := 2) (by omega) (by omega) (by omega) (by omega) (by omega)) (by rfl) (by rfl) (by decide +kernel) (by rfl) (by rfl) (by omega) (by omega) (by omega) (by omega) rfl ?_
  refine jT_xifT (pcN := 40) jI_263_33 rfl (by decide +kernel) rfl ?_
  refine jT_xiconst (k := 0) (pcN := 41) jI_263_40 rfl ?_
  refine jT_xiconst (k := 2) (pcN := 42) jI_263_41 rfl ?_
  refine jT_fB [0, 1, 2, 3, 4, 5, 6, 7, 8, 9, 10, 11, 12, 13, 14, 15] 16 (y := 191) (pcN := 45) (dC := 0) (bc1 := 0) (bc2 := 0) (c1 := 0) (c2 := 0) (as := [(4, 0), (0, 0), (0, 2)]) (asC := [(4, 0), (0, 0), (0, 2)]) (LN := [(0, (4, 0)), (1, (0, x1)), (2, (0, x2)), (3, (0, x3))]) (stN := []) (hsC := jpA_22) (hsD := jpA_361) (v := (0, 1)) (st2 := [(0, 1)]) (hs2 := jpA_361) (jA_191_99 (d := 0)) (by rfl) (by rfl) (by decide +kernel) (by rfl) (by rfl) (by omega) (by omega) (by omega) (by omega) rfl (by decide +kernel) ?_
  refine jT_xifF (t := 50) (pcN := 48) jI_263_45 rfl (by decide +kernel) rfl rfl ?_
  refine jT_xlconst (z := 0) (pcN := 49) jI_263_48 rfl rfl ?_
  exact jT_ret rfl (by decide) (by show 16 ≤ 16; decide) (by omega) (by omega) ⟨rfl, rfl, rfl⟩
theorem jA_116_1535 {xs : List Int} {d : Nat} {x2 : Int} (h_x2 : 10 ≤ x2 ∧ x2 ≤ 2147483647) : jT xs d 116 1 0 [(0, (4, 0)), (1, (0, x2)), (2, (0, 0)), (3, (0, 9))] [] [jgh] 1 6 (fun k v hsN => k = 1 ∧ v = (0, 1) ∧ hsN = [jgh] ++ []) := by
  refine jT_xiload_n (v := (0, x2)) (pcN := 1) jI_116_0 rfl rfl rfl ?_
  refine jT_xiload_n (v := (0, 0)) (pcN := 2) jI_116_1 rfl rfl rfl ?_
  refine jT_icF (a := x2) (b := 0) (t := 10) (by rfl) (by rfl) (by rfl) (jw_idd (by omega) (by omega)) (jw_idd (by omega) (by omega)) (by simp only [jcP] <;> omega) ?_
  refine jT_xiload_n (v := (0, x2)) (pcN := 6) jI_116_5 rfl rfl rfl ?_
  refine jT_xiload_n (v := (0, 9)) (pcN := 7) jI_116_6 rfl rfl rfl ?_
  refine jT_icF (a := x2) (b := 9) (t := 21) (by rfl) (by rfl) (by rfl) (jw_idd (by omega) (by omega)) (jw_idd (by omega) (by omega)) (by simp only [jcP] <;> omega) ?_
  exact jT_ret (c1 := 1) (s1 := 6) rfl (by decide) (by show 1 ≤ 1; decide) (by omega) (by omega) ⟨rfl, rfl, rfl⟩
theorem jA_140_1536 {xs : List Int} {d : Nat} {x1 x2 x3 : Int} (h_x1 : 0 ≤ x1 ∧ x1 ≤ 7) (h_x2 : 10 ≤ x2 ∧ x2 ≤ 2147483647) (h_x3 : (-2147483648) ≤ x3 ∧ x3 ≤ 2147483647) : jT xs (d + 1) 140 12 0 [(0, (4, 0)), (1, (0, x1)), (2, (0, x2)), (3, (0, x3))] [] jpA_6 1 6 (fun k v hsN => k = 1 ∧ v = (0, 1) ∧ hsN = jpA_6 ++ []) := by
  refine jT_xaload_n (v := (4, 0)) (pcN := 1) jI_140_0 rfl rfl rfl ?_
  refine jT_xiload_n (v := (0, x1)) (pcN := 2) jI_140_1 rfl rfl rfl ?_
  refine jT_xbipush (k := 8) (pcN := 4) jI_140_2 (by decide) rfl ?_
  refine jT_fR [0] 12 (y := 115) (pcN := 7) (dC := 0) (bc1 := 0) (bc2 := 0) (c1 := 1) (c2 := 6) (as := [(4, 0), (0, x1), (0, 8)]) (asC := [(4, 0), (0, x1), (0, 8)]) (LN := [(0, (4, 0)), (1, (0, x1)), (2, (0, x2)), (3, (0, x3))]) (stN := []) (hsC := [jgh]) (v := (9, 0)) (st2 := []) (jA_115_9 (d := 0) (by omega)) (by rfl) (by rfl) (by decide +kernel) (by rfl) (by rfl) (by omega) (by omega) (by omega) (by omega) rfl ?_
  refine jT_xaload_n (v := (4, 0)) (pcN := 8) jI_140_7 rfl rfl rfl ?_
  refine jT_xiload_n (v := (0, x2)) (pcN := 9) jI_140_8 rfl rfl rfl ?_
  refine jT_xiconst (k := 0) (pcN := 10) jI_140_9 rfl ?_
  refine jT_xbipush (k := 9) (pcN := 12) jI_140_10 (by decide) rfl ?_
  exact jT_fX [0] 12 (y := 116) (pcN := 15) (dC := 0) (bc1 := 1) (bc2 := 6) (as := [(4, 0), (0, x2), (0, 0), (0, 9)]) (asC := [(4, 0), (0, x2), (0, 0), (0, 9)]) (LN := [(0, (4, 0)), (1, (0, x1)), (2, (0, x2)), (3, (0, x3))]) (stN := []) (hsC := [jgh]) (e := 1) (jA_116_1535 (d := 0) (by omega)) (by rfl) (by rfl) (by decide +kernel) (by rfl) (by rfl) (by omega) (by omega) (by omega) (by omega) ⟨rfl, ⟨rfl, rfl, rfl⟩⟩
theorem jA_347_1537 {xs : List Int} {d : Nat} {x1 x2 x3 : Int} (h_x1 : 0 ≤ x1 ∧ x1 ≤ 7) (h_x2 : 10 ≤ x2 ∧ x2 ≤ 2147483647) (h_x3 : (-2147483648) ≤ x3 ∧ x3 ≤ 2147483647) : jT xs (d + 2) 347 13 0 [(0, (4, 0)), (1, (0, x1)), (2, (0, x2)), (3, (0, x3)), (4, (4, 1))] [] jpA_15 1 6 (fun k v hsN => k = 0 ∧ v = (0, 2) ∧ hsN = jpA_15 ++ []) := by
  refine jT_xaload (v := (4, 1)) (pcN := 2) jI_347_0 rfl rfl rfl ?_
  refine jT_xiconst (k := 0) (pcN := 3) jI_347_2 rfl ?_
  refine jT_xaload_n (v := (4, 0)) (pcN := 4) jI_347_3 rfl rfl rfl ?_
  refine jT_xiload_n (v := (0, x1)) (pcN := 5) jI_347_4 rfl rfl rfl ?_
  refine jT_xiload_n (v := (0, x2)) (pcN := 6) jI_347_5 rfl rfl rfl ?_
  refine jT_xiload_n (v := (0, x3)) (pcN := 7) jI_347_6 rfl rfl rfl ?_
  exact jT_fX [0, 2, 3, 4, 5, 6, 7, 8, 9, 10, 11, 12] 13 (y := 140) (pcN := 10) (dC := 1) (bc1 := 1) (bc2 := 6) (as := [(4, 0), (0, x1), (0, x2), (0, x3)]) (asC := [(4, 0), (0, x1), (0, x2), (0, x3)]) (LN := [(0, (4, 0)), (1, (0, x1)), (2, (0, x2)), (3, (0, x3)), (4, (4, 1))]) (stN := [(0, 0), (4, 1)]) (hsC := jpA_6) (e := 1) (jA_140_1536 (d := 0) (by omega) (by omega) (by omega)) (by rfl) (by rfl) (by decide +kernel) (by rfl) (by rfl) (by omega) (by omega) (by omega) (by omega) (show _ from ⟨rfl, rfl, rfl⟩)
theorem jA_263_1538 {xs : List Int} {d : Nat} {x1 x2 x3 : Int} (h_x1 : 0 ≤ x1 ∧ x1 ≤ 7) (h_x2 : 10 ≤ x2 ∧ x2 ≤ 2147483647) (h_x3 : (-2147483648) ≤ x3 ∧ x3 ≤ 2147483647) : jT xs (d + 2) 263 16 0 [(0, (4, 0)), (1, (0, x1)), (2, (0, x2)), (3, (0, x3))] [] jpA_22 0 0 (fun k v hsN => k = 0 ∧ v = (1, 0) ∧ hsN = jpA_361) := by
  refine jT_xaload_n (v := (4, 0)) (pcN := 1) jI_263_0 rfl rfl rfl ?_
  refine jT_xiload_n (v := (0, x1)) (pcN := 2) jI_263_1 rfl rfl rfl ?_
  refine jT_fR [] 16 (y := 188) (pcN := 5) (dC := 1) (bc1 := 0) (bc2 := 0) (c1 := 0) (c2 := 0) (as := [(0, x1)]) (asC := [(0, x1)]) (LN := [(0, (4, 0)), (1, (0, x1)), (2, (0, x2)), (3, (0, x3))]) (stN := [(4, 0)]) (hsC := []) (v := (0, 1)) (st2 := [(0, 1), (4, 0)]) (jA_188_13 (d := 0) (by omega)) (by rfl) (by rfl) (by decide +kernel) (by rfl) (by rfl) (by omega) (by omega) (by omega) (by omega) rfl ?_
  refine jT_fR [0, 1, 2, 3, 4, 5, 6, 7, 8, 9, 10, 11, 12, 13, 14, 15] 16 (y := 190) (pcN := 8) (dC := 1) (bc1 := 0) (bc2 := 0) (c1 := 0) (c2 := 0) (as := [(4, 0), (0, 1)]) (asC := [(4, 0), (0, 1)]) (LN := [(0, (4, 0)), (1, (0, x1)), (2, (0, x2)), (3, (0, x3))]) (stN := []) (hsC := jpA_22) (v := (0, 0)) (st2 := [(0, 0)]) (jA_190_39 (d := 0)) (by rfl) (by rfl) (by decide +kernel) (by rfl) (by rfl) (by omega) (by omega) (by omega) (by omega) rfl ?_
  refine jT_xifF (t := 48) (pcN := 11) jI_263_8 rfl (by decide +kernel) rfl rfl ?_
  refine jT_xaload_n (v := (4, 0)) (pcN := 12) jI_263_11 rfl rfl rfl ?_
  refine jT_xiload_n (v := (0, x2)) (pcN := 13) jI_263_12 rfl rfl rfl ?_
  refine jT_xi2l (x := x2) (z := x2) (pcN := 14) jI_263_13 rfl (jw_idd (by omega) (by omega)) rfl ?_
  refine jT_xlconst (z := 0) (pcN := 15) jI_263_14 rfl rfl ?_
  refine jT_adv 1 (pcN := 18) (LN := [(0, (4, 0)), (1, (0, x1)), (2, (0, x2)), (3, (0, x3))]) (stN := [(1, 9), (1, 0), (1, x2), (4, 0)]) (hsN := jpA_22) (c1 := 0) (s1 := 0) (c2 := 0) (s2 := 0) (by exact rfl) ?_ (by omega) (by omega)
  refine jT_fR [] 16 (y := 189) (pcN := 21) (dC := 0) (bc1 := 0) (bc2 := 0) (c1 := 0) (c2 := 0) (as := [(1, x2), (1, 0), (1, 9)]) (asC := [(1, x2), (1, 0), (1, 9)]) (LN := [(0, (4, 0)), (1, (0, x1)), (2, (0, x2)), (3, (0, x3))]) (stN := [(4, 0)]) (hsC := []) (v := (0, 0)) (st2 := [(0, 0), (4, 0)]) (jT_in_hi (d := 0) (v := x2) (lo := 0) (hi := 9) (by omega) (by omega) (by omega) (by omega) (by omega)) (by rfl) (by rfl) (by decide +kernel) (by rfl) (by rfl) (by omega) (by omega) (by omega) (by omega) rfl ?_
  refine jT_xifT (pcN := 40) jI_263_21 rfl (by decide +kernel) rfl ?_
  refine jT_xiconst (k := 0) (pcN := 41) jI_263_40 rfl ?_
  refine jT_xiconst (k := 2) (pcN := 42) jI_263_41 rfl ?_
  refine jT_fB [0, 1, 2, 3, 4, 5, 6, 7, 8, 9, 10, 11, 12, 13, 14, 15] 16 (y := 191) (pcN := 45) (dC := 0) (bc1 := 0) (bc2 := 0) (c1 := 0) (c2 := 0) (as := [(4, 0), (0, 0), (0, 2)]) (asC := [(4, 0), (0, 0), (0, 2)]) (LN := [(0, (4, 0)), (1, (0, x1)), (2, (0, x2)), (3, (0, x3))]) (stN := []) (hsC := jpA_22) (hsD := jpA_361) (v := (0, 1)) (st2 := [(0, 1)]) (hs2 := jpA_361) (jA_191_99 (d := 0)) (by rfl) (by rfl) (by decide +kernel) (by rfl) (by rfl) (by omega) (by omega) (by omega) (by omega) rfl (by decide +kernel) ?_
  refine jT_xifF (t := 50) (pcN := 48) jI_263_45 rfl (by decide +kernel) rfl rfl ?_
  refine jT_xlconst (z := 0) (pcN := 49) jI_263_48 rfl rfl ?_
  exact jT_ret rfl (by decide) (by show 16 ≤ 16; decide) (by omega) (by omega) ⟨rfl, rfl, rfl⟩
theorem jA_140_1539 {xs : List Int} {d : Nat} {x1 x2 x3 : Int} (h_x1 : 8 ≤ x1 ∧ x1 ≤ 2147483647) (h_x2 : (-2147483648) ≤ x2 ∧ x2 ≤ 2147483647) (h_x3 : (-2147483648) ≤ x3 ∧ x3 ≤ 2147483647) : jT xs (d + 1) 140 12 0 [(0, (4, 0)), (1, (0, x1)), (2, (0, x2)), (3, (0, x3))] [] jpA_6 1 6 (fun k v hsN => k = 1 ∧ v = (0, 0) ∧ hsN = jpA_6 ++ []) := by
  refine jT_xaload_n (v := (4, 0)) (pcN := 1) jI_140_0 rfl rfl rfl ?_
  refine jT_xiload_n (v := (0, x1)) (pcN := 2) jI_140_1 rfl rfl rfl ?_
  refine jT_xbipush (k := 8) (pcN := 4) jI_140_2 (by decide) rfl ?_
  exact jT_fX [0] 12 (y := 115) (pcN := 7) (dC := 0) (bc1 := 1) (bc2 := 6) (as := [(4, 0), (0, x1), (0, 8)]) (asC := [(4, 0), (0, x1), (0, 8)]) (LN := [(0, (4, 0)), (1, (0, x1)), (2, (0, x2)), (3, (0, x3))]) (stN := []) (hsC := [jgh]) (e := 0) (jA_115_65 (d := 0) (by omega)) (by rfl) (by rfl) (by decide +kernel) (by rfl) (by rfl) (by omega) (by omega) (by omega) (by omega) ⟨rfl, ⟨rfl, rfl, rfl⟩⟩
theorem jA_347_1540 {xs : List Int} {d : Nat} {x1 x2 x3 : Int} (h_x1 : 8 ≤ x1 ∧ x1 ≤ 2147483647) (h_x2 : (-2147483648) ≤ x2 ∧ x2 ≤ 2147483647) (h_x3 : (-2147483648) ≤ x3 ∧ x3 ≤ 2147483647) : jT xs (d + 2) 347 13 0 [(0, (4, 0)), (1, (0, x1)), (2, (0, x2)), (3, (0, x3)), (4, (4, 1))] [] jpA_15 1 6 (fun k v hsN => k = 0 ∧ v = (0, 1) ∧ hsN = jpA_15 ++ []) := by
  refine jT_xaload (v := (4, 1)) (pcN := 2) jI_347_0 rfl rfl rfl ?_
  refine jT_xiconst (k := 0) (pcN := 3) jI_347_2 rfl ?_
  refine jT_xaload_n (v := (4, 0)) (pcN := 4) jI_347_3 rfl rfl rfl ?_
  refine jT_xiload_n (v := (0, x1)) (pcN := 5) jI_347_4 rfl rfl rfl ?_
  refine jT_xiload_n (v := (0, x2)) (pcN := 6) jI_347_5 rfl rfl rfl ?_
  refine jT_xiload_n (v := (0, x3)) (pcN := 7) jI_347_6 rfl rfl rfl ?_
  exact jT_fX [0, 2, 3, 4, 5, 6, 7, 8, 9, 10, 11, 12] 13 (y := 140) (pcN := 10) (dC := 1) (bc1 := 1) (bc2 := 6) (as := [(4, 0), (0, x1), (0, x2), (0, x3)]) (asC := [(4, 0), (0, x1), (0, x2), (0, x3)]) (LN := [(0, (4, 0)), (1, (0, x1)), (2, (0, x2)), (3, (0, x3)), (4, (4, 1))]) (stN := [(0, 0), (4, 1)]) (hsC := jpA_6) (e := 0) (jA_140_1539 (d := 0) (by omega) (by omega) (by omega)) (by rfl) (by rfl) (by decide +kernel) (by rfl) (by rfl) (by omega) (by omega) (by omega) (by omega) (show _ from ⟨rfl, rfl, rfl⟩)
theorem jA_263_1541 {xs : List Int} {d : Nat} {x1 x2 x3 : Int} (h_x1 : 8 ≤ x1 ∧ x1 ≤ 2147483647) (h_x2 : (-2147483648) ≤ x2 ∧ x2 ≤ 2147483647) (h_x3 : (-2147483648) ≤ x3 ∧ x3 ≤ 2147483647) : jT xs (d + 2) 263 16 0 [(0, (4, 0)), (1, (0, x1)), (2, (0, x2)), (3, (0, x3))] [] jpA_22 0 0 (fun k v hsN => k = 0 ∧ v = (1, 0) ∧ hsN = jpA_20) := by
  refine jT_xaload_n (v := (4, 0)) (pcN := 1) jI_263_0 rfl rfl rfl ?_
  refine jT_xiload_n (v := (0, x1)) (pcN := 2) jI_263_1 rfl rfl rfl ?_
  refine jT_fR [] 16 (y := 188) (pcN := 5) (dC := 1) (bc1 := 0) (bc2 := 0) (c1 := 0) (c2 := 0) (as := [(0, x1)]) (asC := [(0, x1)]) (LN := [(0, (4, 0)), (1, (0, x1)), (2, (0, x2)), (3, (0, x3))]) (stN := [(4, 0)]) (hsC := []) (v := (0, 0)) (st2 := [(0, 0), (4, 0)]) (jA_188_68 (d := 0) (by omega)) (by rfl) (by rfl) (by decide +kernel) (by rfl) (by rfl) (by omega) (by omega) (by omega) (by omega) rfl ?_
  refine jT_fB [0, 1, 2, 3, 4, 5, 6, 7, 8, 9, 10, 11, 12, 13, 14, 15] 16 (y := 190) (pcN := 8) (dC := 1) (bc1 := 0) (bc2 := 0) (c1 := 0) (c2 := 0) (as := [(4, 0), (0, 0)]) (asC := [(4, 0), (0, 0)]) (LN := [(0, (4, 0)), (1, (0, x1)), (2, (0, x2)), (3, (0, x3))]) (stN := []) (hsC := jpA_22) (hsD := jpA_20) (v := (0, 1)) (st2 := [(0, 1)]) (hs2 := jpA_20) (jA_190_6 (d := 0)) (by rfl) (by rfl) (by decide +kernel) (by rfl) (by rfl) (by omega) (by omega) (by omega) (by omega) rfl (by decide +kernel) ?_
  refine jT_xifT (pcN := 48) jI_263_8 rfl (by decide +kernel) rfl ?_
  refine jT_xlconst (z := 0) (pcN := 49) jI_263_48 rfl rfl ?_
  exact jT_ret rfl (by decide) (by show 16 ≤ 16; decide) (by omega) (by omega) ⟨rfl, rfl, rfl⟩
theorem jI_379_1863 : jmI (jm 379) 1863 = (.aload_n 1, 1) := by rfl
theorem jI_379_1864 : jmI (jm 379) 1864 = (.aload_n 0, 1) := by rfl
theorem jI_379_1865 : jmI (jm 379) 1865 = (.iload 5, 2) := by rfl
theorem jI_379_1867 : jmI (jm 379) 1867 = (.iconst 1, 1) := by rfl
theorem jI_379_1868 : jmI (jm 379) 1868 = (.iadd, 1) := by rfl
theorem jI_379_1870 : jmI (jm 379) 1870 = (.aload_n 0, 1) := by rfl
theorem jI_379_1871 : jmI (jm 379) 1871 = (.iload 5, 2) := by rfl
theorem jI_379_1873 : jmI (jm 379) 1873 = (.iconst 2, 1) := by rfl
theorem jI_379_1874 : jmI (jm 379) 1874 = (.iadd, 1) := by rfl
theorem jI_379_1876 : jmI (jm 379) 1876 = (.aload_n 0, 1) := by rfl
theorem jI_379_1877 : jmI (jm 379) 1877 = (.iload 5, 2) := by rfl
theorem jI_379_1879 : jmI (jm 379) 1879 = (.iconst 3, 1) := by rfl
theorem jI_379_1880 : jmI (jm 379) 1880 = (.iadd, 1) := by rfl
theorem jI_379_1882 : jmI (jm 379) 1882 = (.aload_n 3, 1) := by rfl
theorem jI_379_1886 : jmI (jm 379) 1886 = (.istore 6, 2) := by rfl
theorem jI_379_1888 : jmI (jm 379) 1888 = (.aload_n 2, 1) := by rfl
theorem jI_379_1889 : jmI (jm 379) 1889 = (.aload_n 0, 1) := by rfl
theorem jI_379_1890 : jmI (jm 379) 1890 = (.iload 5, 2) := by rfl
theorem jI_379_1892 : jmI (jm 379) 1892 = (.iconst 1, 1) := by rfl
theorem jI_379_1893 : jmI (jm 379) 1893 = (.iadd, 1) := by rfl
theorem jI_379_1895 : jmI (jm 379) 1895 = (.aload_n 0, 1) := by rfl
theorem jI_379_1896 : jmI (jm 379) 1896 = (.iload 5, 2) := by rfl
theorem jI_379_1898 : jmI (jm 379) 1898 = (.iconst 2, 1) := by rfl
theorem jI_379_1899 : jmI (jm 379) 1899 = (.iadd, 1) := by rfl
theorem jI_379_1901 : jmI (jm 379) 1901 = (.aload_n 0, 1) := by rfl
theorem jI_379_1902 : jmI (jm 379) 1902 = (.iload 5, 2) := by rfl
theorem jI_379_1904 : jmI (jm 379) 1904 = (.iconst 3, 1) := by rfl
theorem jI_379_1905 : jmI (jm 379) 1905 = (.iadd, 1) := by rfl
theorem jI_379_1910 : jmI (jm 379) 1910 = (.lstore 7, 2) := by rfl
theorem jI_379_1912 : jmI (jm 379) 1912 = (.aload_n 2, 1) := by rfl
theorem jI_379_1916 : jmI (jm 379) 1916 = (.iload 6, 2) := by rfl
theorem jI_379_1918 : jmI (jm 379) 1918 = (.if_icmp .eq 5, 3) := by rfl
theorem jI_379_1923 : jmI (jm 379) 1923 = (.iload 6, 2) := by rfl
theorem jI_379_1925 : jmI (jm 379) 1925 = (.ifCond .ne 14, 3) := by rfl
theorem jI_379_1939 : jmI (jm 379) 1939 = (.goto 1801, 3) := by rfl
set_option maxRecDepth 100000 in
theorem jL_22_0 {d : Nat} {x0 x1 x2 x3 x4 : Int} (h_x0 : (-2147483648) ≤ x0 ∧ x0 ≤ 2147483647) (h_x1 : (-2147483648) ≤ x1 ∧ x1 ≤ (-1)) (h_x2 : (-2147483648) ≤ x2 ∧ x2 ≤ 2147483647) (h_x3 : (-2147483648) ≤ x3 ∧ x3 ≤ 2147483647) (h_x4 : (-2147483648) ≤ x4 ∧ x4 ≤ 2147483647) : jT [x0, x1, x2, x3, x4] (d + 3) 379 30 1863 [(5, (0, 0)), (4, (4, 3)), (3, (4, 2)), (2, (4, 1)), (1, (4, 0)), (0, (6, 0))] [] jpA_267 1 6 (fun k v hsN => k = 0 ∧ v = (0, 1)) := by
  refine jT_xaload_n (v := (4, 0)) (pcN := 1864) jI_379_1863 rfl rfl rfl ?_
  refine jT_xaload_n (v := (6, 0)) (pcN := 1865) jI_379_1864 rfl rfl rfl ?_
  refine jT_xiload (v := (0, 0)) (pcN := 1867) jI_379_1865 rfl rfl rfl ?_
  refine jT_xiconst (k := 1) (pcN := 1868) jI_379_1867 rfl ?_
  refine jT_xiadd (x := 0) (y := 1) (z := 1) (pcN := 1869) jI_379_1868 rfl (by decide) rfl ?_
  refine jT_adv 1 (pcN := 1870) (LN := [(5, (0, 0)), (4, (4, 3)), (3, (4, 2)), (2, (4, 1)), (1, (4, 0)), (0, (6, 0))]) (stN := [(0, x1), (4, 0)]) (hsN := jpA_267) (c1 := 0) (s1 := 0) (c2 := 1) (s2 := 6) (by exact rfl) ?_ (by omega) (by omega)
  refine jT_xaload_n (v := (6, 0)) (pcN := 1871) jI_379_1870 rfl rfl rfl ?_
  refine jT_xiload (v := (0, 0)) (pcN := 1873) jI_379_1871 rfl rfl rfl ?_
  refine jT_xiconst (k := 2) (pcN := 1874) jI_379_1873 rfl ?_
  refine jT_xiadd (x := 0) (y := 2) (z := 2) (pcN := 1875) jI_379_1874 rfl (by decide) rfl ?_
  refine jT_adv 1 (pcN := 1876) (LN := [(5, (0, 0)), (4, (4, 3)), (3, (4, 2)), (2, (4, 1)), (1, (4, 0)), (0, (6, 0))]) (stN := [(0, x2), (0, x1), (4, 0)]) (hsN := jpA_267) (c1 := 0) (s1 := 0) (c2 := 1) (s2 := 6) (by exact rfl) ?_ (by omega) (by omega)
  refine jT_xaload_n (v := (6, 0)) (pcN := 1877) jI_379_1876 rfl rfl rfl ?_
  refine jT_xiload (v := (0, 0)) (pcN := 1879) jI_379_1877 rfl rfl rfl ?_
  refine jT_xiconst (k := 3) (pcN := 1880) jI_379_1879 rfl ?_
  refine jT_xiadd (x := 0) (y := 3) (z := 3) (pcN := 1881) jI_379_1880 rfl (by decide) rfl ?_
  refine jT_adv 1 (pcN := 1882) (LN := [(5, (0, 0)), (4, (4, 3)), (3, (4, 2)), (2, (4, 1)), (1, (4, 0)), (0, (6, 0))]) (stN := [(0, x3), (0, x2), (0, x1), (4, 0)]) (hsN := jpA_267) (c1 := 0) (s1 := 0) (c2 := 1) (s2 := 6) (by exact rfl) ?_ (by omega) (by omega)
  refine jT_xaload_n (v := (4, 2)) (pcN := 1883) jI_379_1882 rfl rfl rfl ?_
  refine jT_fR [0, 2, 4, 5, 6, 7, 8, 9, 10, 11, 12, 13, 14] 30 (y := 347) (pcN := 1886) (dC := 2) (bc1 := 1) (bc2 := 6) (c1 := 0) (c2 := 0) (as := [(4, 0), (0, x1), (0, x2), (0, x3), (4, 2)]) (asC := [(4, 0), (0, x1), (0, x2), (0, x3), (4, 1)]) (LN := [(5, (0, 0)), (4, (4, 3)), (3, (4, 2)), (2, (4, 1)), (1, (4, 0)), (0, (6, 0))]) (stN := []) (hsC := jpA_15) (v := (0, 1)) (st2 := [(0, 1)]) (jA_347_1265 (d := 0) (by omega) (by omega) (by omega)) (by rfl) (by rfl) (by decide +kernel) (by rfl) (by rfl) (by omega) (by omega) (by omega) (by omega) rfl ?_
  refine jT_xistore (v := (0, 1)) (LN := [(6, (0, 1)), (5, (0, 0)), (4, (4, 3)), (3, (4, 2)), (2, (4, 1)), (1, (4, 0)), (0, (6, 0))]) (pcN := 1888) jI_379_1886 rfl rfl rfl rfl ?_
  refine jT_xaload_n (v := (4, 1)) (pcN := 1889) jI_379_1888 rfl rfl rfl ?_
  refine jT_xaload_n (v := (6, 0)) (pcN := 1890) jI_379_1889 rfl rfl rfl ?_
  refine jT_xiload (v := (0, 0)) (pcN := 1892) jI_379_1890 rfl rfl rfl ?_
  refine jT_xiconst (k := 1) (pcN := 1893) jI_379_1892 rfl ?_
  refine jT_xiadd (x := 0) (y := 1) (z := 1) (pcN := 1894) jI_379_1893 rfl (by decide) rfl ?_
  refine jT_adv 1 (pcN := 1895) (LN := [(6, (0, 1)), (5, (0, 0)), (4, (4, 3)), (3, (4, 2)), (2, (4, 1)), (1, (4, 0)), (0, (6, 0))]) (stN := [(0, x1), (4, 1)]) (hsN := jpA_267) (c1 := 0) (s1 := 0) (c2 := 0) (s2 := 0) (by exact rfl) ?_ (by omega) (by omega)
  refine jT_xaload_n (v := (6, 0)) (pcN := 1896) jI_379_1895 rfl rfl rfl ?_
  refine jT_xiload (v := (0, 0)) (pcN := 1898) jI_379_1896 rfl rfl rfl ?_
  refine jT_xiconst (k := 2) (pcN := 1899) jI_379_1898 rfl ?_
  refine jT_xiadd (x := 0) (y := 2) (z := 2) (pcN := 1900) jI_379_1899 rfl (by decide) rfl ?_
  refine jT_adv 1 (pcN := 1901) (LN := [(6, (0, 1)), (5, (0, 0)), (4, (4, 3)), (3, (4, 2)), (2, (4, 1)), (1, (4, 0)), (0, (6, 0))]) (stN := [(0, x2), (0, x1), (4, 1)]) (hsN := jpA_267) (c1 := 0) (s1 := 0) (c2 := 0) (s2 := 0) (by exact rfl) ?_ (by omega) (by omega)
  refine jT_xaload_n (v := (6, 0)) (pcN := 1902) jI_379_1901 rfl rfl rfl ?_
  refine jT_xiload (v := (0, 0)) (pcN := 1904) jI_379_1902 rfl rfl rfl ?_
  refine jT_xiconst (k := 3) (pcN := 1905) jI_379_1904 rfl ?_
  refine jT_xiadd (x := 0) (y := 3) (z := 3) (pcN := 1906) jI_379_1905 rfl (by decide) rfl ?_
  refine jT_adv 1 (pcN := 1907) (LN := [(6, (0, 1)), (5, (0, 0)), (4, (4, 3)), (3, (4, 2)), (2, (4, 1)), (1, (4, 0)), (0, (6, 0))]) (stN := [(0, x3), (0, x2), (0, x1), (4, 1)]) (hsN := jpA_267) (c1 := 0) (s1 := 0) (c2 := 0) (s2 := 0) (by exact rfl) ?_ (by omega) (by omega)
  refine jT_fB [1, 15, 16, 17, 18, 19, 20, 21, 22, 23, 24, 25, 26, 27, 28, 29] 30 (y := 263) (pcN := 1910) (dC := 2) (bc1 := 0) (bc2 := 0) (c1 := 0) (c2 := 0) (as := [(4, 1), (0, x1), (0, x2), (0, x3)]) (asC := [(4, 0), (0, x1), (0, x2), (0, x3)]) (LN := [(6, (0, 1)), (5, (0, 0)), (4, (4, 3)), (3, (4, 2)), (2, (4, 1)), (1, (4, 0)), (0, (6, 0))]) (stN := []) (hsC := jpA_22) (hsD := jpA_20) (v := (1, 0)) (st2 := [(1, 0)]) (hs2 := jpA_306) (jA_263_1266 (d := 0) (by omega) (by omega) (by omega)) (by rfl) (by rfl) (by decide +kernel) (by rfl) (by rfl) (by omega) (by omega) (by omega) (by omega) rfl (by decide +kernel) ?_
  refine jT_xlstore (v := (1, 0)) (LN := [(7, (1, 0)), (6, (0, 1)), (5, (0, 0)), (4, (4, 3)), (3, (4, 2)), (2, (4, 1)), (1, (4, 0)), (0, (6, 0))]) (pcN := 1912) jI_379_1910 rfl rfl rfl rfl ?_
  refine jT_xaload_n (v := (4, 1)) (pcN := 1913) jI_379_1912 rfl rfl rfl ?_
  refine jT_fR [1, 15, 16, 17, 18, 19, 20, 21, 22, 23, 24, 25, 26, 27, 28, 29] 30 (y := 186) (pcN := 1916) (dC := 0) (bc1 := 0) (bc2 := 0) (c1 := 0) (c2 := 0) (as := [(4, 1)]) (asC := [(4, 0)]) (LN := [(7, (1, 0)), (6, (0, 1)), (5, (0, 0)), (4, (4, 3)), (3, (4, 2)), (2, (4, 1)), (1, (4, 0)), (0, (6, 0))]) (stN := []) (hsC := jpA_20) (v := (0, 1)) (st2 := [(0, 1)]) (jA_186_8 (d := 0)) (by rfl) (by rfl) (by decide +kernel) (by rfl) (by rfl) (by omega) (by omega) (by omega) (by omega) rfl ?_
  refine jT_xiload (v := (0, 1)) (pcN := 1918) jI_379_1916 rfl rfl rfl ?_
  refine jT_xicT (pcN := 1923) jI_379_1918 rfl (by decide +kernel) rfl ?_
  refine jT_xiload (v := (0, 1)) (pcN := 1925) jI_379_1923 rfl rfl rfl ?_
  refine jT_xifT (pcN := 1939) jI_379_1925 rfl (by decide +kernel) rfl ?_
  refine jT_xgoto (pcN := 3740) jI_379_1939 rfl ?_
  refine jT_xiinc (x := 0) (z := 5) (LN := [(5, (0, 5)), (7, (1, 0)), (6, (0, 1)), (4, (4, 3)), (3, (4, 2)), (2, (4, 1)), (1, (4, 0)), (0, (6, 0))]) (pcN := 3743) jI_379_3740 rfl rfl (by decide) rfl rfl ?_
  refine jT_xgoto (pcN := 28) jI_379_3743 rfl ?_
  refine jT_xiload (v := (0, 5)) (pcN := 30) jI_379_28 rfl rfl rfl ?_
  refine jT_xaload_n (v := (6, 0)) (pcN := 31) jI_379_30 rfl rfl rfl ?_
  refine jT_adv 1 (pcN := 32) (LN := [(5, (0, 5)), (7, (1, 0)), (6, (0, 1)), (4, (4, 3)), (3, (4, 2)), (2, (4, 1)), (1, (4, 0)), (0, (6, 0))]) (stN := [(0, 5), (0, 5)]) (hsN := jpA_306) (c1 := 0) (s1 := 0) (c2 := 0) (s2 := 0) (by exact rfl) ?_ (by omega) (by omega)
  refine jT_xiconst (k := 5) (pcN := 33) jI_379_32 rfl ?_
  refine jT_xisub (x := 5) (y := 5) (z := 0) (pcN := 34) jI_379_33 rfl (by decide) rfl ?_
  refine jT_xicT (pcN := 3746) jI_379_34 rfl (by decide +kernel) rfl ?_
  refine jT_xiconst (k := 1) (pcN := 3747) jI_379_3746 rfl ?_
  exact jT_ret rfl (by decide) (by show 30 ≤ 30; decide) (by omega) (by omega) ⟨rfl, rfl⟩
set_option maxRecDepth 100000 in
theorem jL_22_1 {d : Nat} {x0 x1 x2 x3 x4 : Int} (h_x0 : (-2147483648) ≤ x0 ∧ x0 ≤ 2147483647) (h_x1 : 0 ≤ x1 ∧ x1 ≤ 7) (h_x2 : (-2147483648) ≤ x2 ∧ x2 ≤ (-1)) (h_x3 : (-2147483648) ≤ x3 ∧ x3 ≤ 2147483647) (h_x4 : (-2147483648) ≤ x4 ∧ x4 ≤ 2147483647) : jT [x0, x1, x2, x3, x4] (d + 3) 379 30 1863 [(5, (0, 0)), (4, (4, 3)), (3, (4, 2)), (2, (4, 1)), (1, (4, 0)), (0, (6, 0))] [] jpA_267 1 6 (fun k v hsN => k = 0 ∧ v = (0, 1)) := by
  refine jT_xaload_n (v := (4, 0)) (pcN := 1864) jI_379_1863 rfl rfl rfl ?_
  refine jT_xaload_n (v := (6, 0)) (pcN := 1865) jI_379_1864 rfl rfl rfl ?_
  refine jT_xiload (v := (0, 0)) (pcN := 1867) jI_379_1865 rfl rfl rfl ?_
  refine jT_xiconst (k := 1) (pcN := 1868) jI_379_1867 rfl ?_
  refine jT_xiadd (x := 0) (y := 1) (z := 1) (pcN := 1869) jI_379_1868 rfl (by decide) rfl ?_
  refine jT_adv 1 (pcN := 1870) (LN := [(5, (0, 0)), (4, (4, 3)), (3, (4, 2)), (2, (4, 1)), (1, (4, 0)), (0, (6, 0))]) (stN := [(0, x1), (4, 0)]) (hsN := jpA_267) (c1 := 0) (s1 := 0) (c2 := 1) (s2 := 6) (by exact rfl) ?_ (by omega) (by omega)
  refine jT_xaload_n (v := (6, 0)) (pcN := 1871) jI_379_1870 rfl rfl rfl ?_
  refine jT_xiload (v := (0, 0)) (pcN := 1873) jI_379_1871 rfl rfl rfl ?_
  refine jT_xiconst (k := 2) (pcN := 1874) jI_379_1873 rfl ?_
  refine jT_xiadd (x := 0) (y := 2) (z := 2) (pcN := 1875) jI_379_1874 rfl (by decide) rfl ?_
  refine jT_adv 1 (pcN := 1876) (LN := [(5, (0, 0)), (4, (4, 3)), (3, (4, 2)), (2, (4, 1)), (1, (4, 0)), (0, (6, 0))]) (stN := [(0, x2), (0, x1), (4, 0)]) (hsN := jpA_267) (c1 := 0) (s1 := 0) (c2 := 1) (s2 := 6) (by exact rfl) ?_ (by omega) (by omega)
  refine jT_xaload_n (v := (6, 0)) (pcN := 1877) jI_379_1876 rfl rfl rfl ?_
  refine jT_xiload (v := (0, 0)) (pcN := 1879) jI_379_1877 rfl rfl rfl ?_
  refine jT_xiconst (k := 3) (pcN := 1880) jI_379_1879 rfl ?_
  refine jT_xiadd (x := 0) (y := 3) (z := 3) (pcN := 1881) jI_379_1880 rfl (by decide) rfl ?_
  refine jT_adv 1 (pcN := 1882) (LN := [(5, (0, 0)), (4, (4, 3)), (3, (4, 2)), (2, (4, 1)), (1, (4, 0)), (0, (6, 0))]) (stN := [(0, x3), (0, x2), (0, x1), (4, 0)]) (hsN := jpA_267) (c1 := 0) (s1 := 0) (c2 := 1) (s2 := 6) (by exact rfl) ?_ (by omega) (by omega)
  refine jT_xaload_n (v := (4, 2)) (pcN := 1883) jI_379_1882 rfl rfl rfl ?_
  refine jT_fR [0, 2, 4, 5, 6, 7, 8, 9, 10, 11, 12, 13, 14] 30 (y := 347) (pcN := 1886) (dC := 2) (bc1 := 1) (bc2 := 6) (c1 := 0) (c2 := 0) (as := [(4, 0), (0, x1), (0, x2), (0, x3), (4, 2)]) (asC := [(4, 0), (0, x1), (0, x2), (0, x3), (4, 1)]) (LN := [(5, (0, 0)), (4, (4, 3)), (3, (4, 2)), (2, (4, 1)), (1, (4, 0)), (0, (6, 0))]) (stN := []) (hsC := jpA_15) (v := (0, 2)) (st2 := [(0, 2)]) (jA_347_1269 (d := 0) (by omega) (by omega) (by omega)) (by rfl) (by rfl) (by decide +kernel) (by rfl) (by rfl) (by omega) (by omega) (by omega) (by omega) rfl ?_
  refine jT_xistore (v := (0, 2)) (LN := [(6, (0, 2)), (5, (0, 0)), (4, (4, 3)), (3, (4, 2)), (2, (4, 1)), (1, (4, 0)), (0, (6, 0))]) (pcN := 1888) jI_379_1886 rfl rfl rfl rfl ?_
  refine jT_xaload_n (v := (4, 1)) (pcN := 1889) jI_379_1888 rfl rfl rfl ?_
  refine jT_xaload_n (v := (6, 0)) (pcN := 1890) jI_379_1889 rfl rfl rfl ?_
  refine jT_xiload (v := (0, 0)) (pcN := 1892) jI_379_1890 rfl rfl rfl ?_
  refine jT_xiconst (k := 1) (pcN := 1893) jI_379_1892 rfl ?_
  refine jT_xiadd (x := 0) (y := 1) (z := 1) (pcN := 1894) jI_379_1893 rfl (by decide) rfl ?_
  refine jT_adv 1 (pcN := 1895) (LN := [(6, (0, 2)), (5, (0, 0)), (4, (4, 3)), (3, (4, 2)), (2, (4, 1)), (1, (4, 0)), (0, (6, 0))]) (stN := [(0, x1), (4, 1)]) (hsN := jpA_267) (c1 := 0) (s1 := 0) (c2 := 0) (s2 := 0) (by exact rfl) ?_ (by omega) (by omega)
  refine jT_xaload_n (v := (6, 0)) (pcN := 1896) jI_379_1895 rfl rfl rfl ?_
  refine jT_xiload (v := (0, 0)) (pcN := 1898) jI_379_1896 rfl rfl rfl ?_
  refine jT_xiconst (k := 2) (pcN := 1899) jI_379_1898 rfl ?_
  refine jT_xiadd (x := 0) (y := 2) (z := 2) (pcN := 1900) jI_379_1899 rfl (by decide) rfl ?_
  refine jT_adv 1 (pcN := 1901) (LN := [(6, (0, 2)), (5, (0, 0)), (4, (4, 3)), (3, (4, 2)), (2, (4, 1)), (1, (4, 0)), (0, (6, 0))]) (stN := [(0, x2), (0, x1), (4, 1)]) (hsN := jpA_267) (c1 := 0) (s1 := 0) (c2 := 0) (s2 := 0) (by exact rfl) ?_ (by omega) (by omega)
  refine jT_xaload_n (v := (6, 0)) (pcN := 1902) jI_379_1901 rfl rfl rfl ?_
  refine jT_xiload (v := (0, 0)) (pcN := 1904) jI_379_1902 rfl rfl rfl ?_
  refine jT_xiconst (k := 3) (pcN := 1905) jI_379_1904 rfl ?_
  refine jT_xiadd (x := 0) (y := 3) (z := 3) (pcN := 1906) jI_379_1905 rfl (by decide) rfl ?_
  refine jT_adv 1 (pcN := 1907) (LN := [(6, (0, 2)), (5, (0, 0)), (4, (4, 3)), (3, (4, 2)), (2, (4, 1)), (1, (4, 0)), (0, (6, 0))]) (stN := [(0, x3), (0, x2), (0, x1), (4, 1)]) (hsN := jpA_267) (c1 := 0) (s1 := 0) (c2 := 0) (s2 := 0) (by exact rfl) ?_ (by omega) (by omega)
  refine jT_fB [1, 15, 16, 17, 18, 19, 20, 21, 22, 23, 24, 25, 26, 27, 28, 29] 30 (y := 263) (pcN := 1910) (dC := 2) (bc1 := 0) (bc2 := 0) (c1 := 0) (c2 := 0) (as := [(4, 1), (0, x1), (0, x2), (0, x3)]) (asC := [(4, 0), (0, x1), (0, x2), (0, x3)]) (LN := [(6, (0, 2)), (5, (0, 0)), (4, (4, 3)), (3, (4, 2)), (2, (4, 1)), (1, (4, 0)), (0, (6, 0))]) (stN := []) (hsC := jpA_22) (hsD := jpA_361) (v := (1, 0)) (st2 := [(1, 0)]) (hs2 := jpA_607) (jA_263_1270 (d := 0) (by omega) (by omega) (by omega)) (by rfl) (by rfl) (by decide +kernel) (by rfl) (by rfl) (by omega) (by omega) (by omega) (by omega) rfl (by decide +kernel) ?_
  refine jT_xlstore (v := (1, 0)) (LN := [(7, (1, 0)), (6, (0, 2)), (5, (0, 0)), (4, (4, 3)), (3, (4, 2)), (2, (4, 1)), (1, (4, 0)), (0, (6, 0))]) (pcN := 1912) jI_379_1910 rfl rfl rfl rfl ?_
  refine jT_xaload_n (v := (4, 1)) (pcN := 1913) jI_379_1912 rfl rfl rfl ?_
  refine jT_fR [1, 15, 16, 17, 18, 19, 20, 21, 22, 23, 24, 25, 26, 27, 28, 29] 30 (y := 186) (pcN := 1916) (dC := 0) (bc1 := 0) (bc2 := 0) (c1 := 0) (c2 := 0) (as := [(4, 1)]) (asC := [(4, 0)]) (LN := [(7, (1, 0)), (6, (0, 2)), (5, (0, 0)), (4, (4, 3)), (3, (4, 2)), (2, (4, 1)), (1, (4, 0)), (0, (6, 0))]) (stN := []) (hsC := jpA_361) (v := (0, 2)) (st2 := [(0, 2)]) (jA_186_101 (d := 0)) (by rfl) (by rfl) (by decide +kernel) (by rfl) (by rfl) (by omega) (by omega) (by omega) (by omega) rfl ?_
  refine jT_xiload (v := (0, 2)) (pcN := 1918) jI_379_1916 rfl rfl rfl ?_
  refine jT_xicT (pcN := 1923) jI_379_1918 rfl (by decide +kernel) rfl ?_
  refine jT_xiload (v := (0, 2)) (pcN := 1925) jI_379_1923 rfl rfl rfl ?_
  refine jT_xifT (pcN := 1939) jI_379_1925 rfl (by decide +kernel) rfl ?_
  refine jT_xgoto (pcN := 3740) jI_379_1939 rfl ?_
  refine jT_xiinc (x := 0) (z := 5) (LN := [(5, (0, 5)), (7, (1, 0)), (6, (0, 2)), (4, (4, 3)), (3, (4, 2)), (2, (4, 1)), (1, (4, 0)), (0, (6, 0))]) (pcN := 3743) jI_379_3740 rfl rfl (by decide) rfl rfl ?_
  refine jT_xgoto (pcN := 28) jI_379_3743 rfl ?_
  refine jT_xiload (v := (0, 5)) (pcN := 30) jI_379_28 rfl rfl rfl ?_
  refine jT_xaload_n (v := (6, 0)) (pcN := 31) jI_379_30 rfl rfl rfl ?_
  refine jT_adv 1 (pcN := 32) (LN := [(5, (0, 5)), (7, (1, 0)), (6, (0, 2)), (4, (4, 3)), (3, (4, 2)), (2, (4, 1)), (1, (4, 0)), (0, (6, 0))]) (stN := [(0, 5), (0, 5)]) (hsN := jpA_607) (c1 := 0) (s1 := 0) (c2 := 0) (s2 := 0) (by exact rfl) ?_ (by omega) (by omega)
  refine jT_xiconst (k := 5) (pcN := 33) jI_379_32 rfl ?_
  refine jT_xisub (x := 5) (y := 5) (z := 0) (pcN := 34) jI_379_33 rfl (by decide) rfl ?_
  refine jT_xicT (pcN := 3746) jI_379_34 rfl (by decide +kernel) rfl ?_
  refine jT_xiconst (k := 1) (pcN := 3747) jI_379_3746 rfl ?_
  exact jT_ret rfl (by decide) (by show 30 ≤ 30; decide) (by omega) (by omega) ⟨rfl, rfl⟩
set_option maxRecDepth 100000 in
theorem jL_22_2 {d : Nat} {x0 x1 x2 x3 x4 : Int} (h_x0 : (-2147483648) ≤ x0 ∧ x0 ≤ 2147483647) (h_x1 : 0 ≤ x1 ∧ x1 ≤ 7) (h_x2 : 0 ≤ x2 ∧ x2 ≤ 9) (h_x3 : (-2147483648) ≤ x3 ∧ x3 ≤ (-1)) (h_x4 : (-2147483648) ≤ x4 ∧ x4 ≤ 2147483647) : jT [x0, x1, x2, x3, x4] (d + 3) 379 30 1863 [(5, (0, 0)), (4, (4, 3)), (3, (4, 2)), (2, (4, 1)), (1, (4, 0)), (0, (6, 0))] [] jpA_267 1 6 (fun k v hsN => k = 0 ∧ v = (0, 1)) := by
  refine jT_xaload_n (v := (4, 0)) (pcN := 1864) jI_379_1863 rfl rfl rfl ?_
  refine jT_xaload_n (v := (6, 0)) (pcN := 1865) jI_379_1864 rfl rfl rfl ?_
  refine jT_xiload (v := (0, 0)) (pcN := 1867) jI_379_1865 rfl rfl rfl ?_
  refine jT_xiconst (k := 1) (pcN := 1868) jI_379_1867 rfl ?_
  refine jT_xiadd (x := 0) (y := 1) (z := 1) (pcN := 1869) jI_379_1868 rfl (by decide) rfl ?_
  refine jT_adv 1 (pcN := 1870) (LN := [(5, (0, 0)), (4, (4, 3)), (3, (4, 2)), (2, (4, 1)), (1, (4, 0)), (0, (6, 0))]) (stN := [(0, x1), (4, 0)]) (hsN := jpA_267) (c1 := 0) (s1 := 0) (c2 := 1) (s2 := 6) (by exact rfl) ?_ (by omega) (by omega)
  refine jT_xaload_n (v := (6, 0)) (pcN := 1871) jI_379_1870 rfl rfl rfl ?_
  refine jT_xiload (v := (0, 0)) (pcN := 1873) jI_379_1871 rfl rfl rfl ?_
  refine jT_xiconst (k := 2) (pcN := 1874) jI_379_1873 rfl ?_
  refine jT_xiadd (x := 0) (y := 2) (z := 2) (pcN := 1875) jI_379_1874 rfl (by decide) rfl ?_
  refine jT_adv 1 (pcN := 1876) (LN := [(5, (0, 0)), (4, (4, 3)), (3, (4, 2)), (2, (4, 1)), (1, (4, 0)), (0, (6, 0))]) (stN := [(0, x2), (0, x1), (4, 0)]) (hsN := jpA_267) (c1 := 0) (s1 := 0) (c2 := 1) (s2 := 6) (by exact rfl) ?_ (by omega) (by omega)
  refine jT_xaload_n (v := (6, 0)) (pcN := 1877) jI_379_1876 rfl rfl rfl ?_
  refine jT_xiload (v := (0, 0)) (pcN := 1879) jI_379_1877 rfl rfl rfl ?_
  refine jT_xiconst (k := 3) (pcN := 1880) jI_379_1879 rfl ?_
  refine jT_xiadd (x := 0) (y := 3) (z := 3) (pcN := 1881) jI_379_1880 rfl (by decide) rfl ?_
  refine jT_adv 1 (pcN := 1882) (LN := [(5, (0, 0)), (4, (4, 3)), (3, (4, 2)), (2, (4, 1)), (1, (4, 0)), (0, (6, 0))]) (stN := [(0, x3), (0, x2), (0, x1), (4, 0)]) (hsN := jpA_267) (c1 := 0) (s1 := 0) (c2 := 1) (s2 := 6) (by exact rfl) ?_ (by omega) (by omega)
  refine jT_xaload_n (v := (4, 2)) (pcN := 1883) jI_379_1882 rfl rfl rfl ?_
  refine jT_fR [0, 2, 4, 5, 6, 7, 8, 9, 10, 11, 12, 13, 14] 30 (y := 347) (pcN := 1886) (dC := 2) (bc1 := 1) (bc2 := 6) (c1 := 0) (c2 := 0) (as := [(4, 0), (0, x1), (0, x2), (0, x3), (4, 2)]) (asC := [(4, 0), (0, x1), (0, x2), (0, x3), (4, 1)]) (LN := [(5, (0, 0)), (4, (4, 3)), (3, (4, 2)), (2, (4, 1)), (1, (4, 0)), (0, (6, 0))]) (stN := []) (hsC := jpA_15) (v := (0, 2)) (st2 := [(0, 2)]) (jA_347_1274 (d := 0) (by omega) (by omega) (by omega)) (by rfl) (by rfl) (by decide +kernel) (by rfl) (by rfl) (by omega) (by omega) (by omega) (by omega) rfl ?_
  refine jT_xistore (v := (0, 2)) (LN := [(6, (0, 2)), (5, (0, 0)), (4, (4, 3)), (3, (4, 2)), (2, (4, 1)), (1, (4, 0)), (0, (6, 0))]) (pcN := 1888) jI_379_1886 rfl rfl rfl rfl ?_
  refine jT_xaload_n (v := (4, 1)) (pcN := 1889) jI_379_1888 rfl rfl rfl ?_
  refine jT_xaload_n (v := (6, 0)) (pcN := 1890) jI_379_1889 rfl rfl rfl ?_
  refine jT_xiload (v := (0, 0)) (pcN := 1892) jI_379_1890 rfl rfl rfl ?_
  refine jT_xiconst (k := 1) (pcN := 1893) jI_379_1892 rfl ?_
  refine jT_xiadd (x := 0) (y := 1) (z := 1) (pcN := 1894) jI_379_1893 rfl (by decide) rfl ?_
  refine jT_adv 1 (pcN := 1895) (LN := [(6, (0, 2)), (5, (0, 0)), (4, (4, 3)), (3, (4, 2)), (2, (4, 1)), (1, (4, 0)), (0, (6, 0))]) (stN := [(0, x1), (4, 1)]) (hsN := jpA_267) (c1 := 0) (s1 := 0) (c2 := 0) (s2 := 0) (by exact rfl) ?_ (by omega) (by omega)
  refine jT_xaload_n (v := (6, 0)) (pcN := 1896) jI_379_1895 rfl rfl rfl ?_
  refine jT_xiload (v := (0, 0)) (pcN := 1898) jI_379_1896 rfl rfl rfl ?_
  refine jT_xiconst (k := 2) (pcN := 1899) jI_379_1898 rfl ?_
  refine jT_xiadd (x := 0) (y := 2) (z := 2) (pcN := 1900) jI_379_1899 rfl (by decide) rfl ?_
  refine jT_adv 1 (pcN := 1901) (LN := [(6, (0, 2)), (5, (0, 0)), (4, (4, 3)), (3, (4, 2)), (2, (4, 1)), (1, (4, 0)), (0, (6, 0))]) (stN := [(0, x2), (0, x1), (4, 1)]) (hsN := jpA_267) (c1 := 0) (s1 := 0) (c2 := 0) (s2 := 0) (by exact rfl) ?_ (by omega) (by omega)
  refine jT_xaload_n (v := (6, 0)) (pcN := 1902) jI_379_1901 rfl rfl rfl ?_
  refine jT_xiload (v := (0, 0)) (pcN := 1904) jI_379_1902 rfl rfl rfl ?_
  refine jT_xiconst (k := 3) (pcN := 1905) jI_379_1904 rfl ?_
  refine jT_xiadd (x := 0) (y := 3) (z := 3) (pcN := 1906) jI_379_1905 rfl (by decide) rfl ?_
  refine jT_adv 1 (pcN := 1907) (LN := [(6, (0, 2)), (5, (0, 0)), (4, (4, 3)), (3, (4, 2)), (2, (4, 1)), (1, (4, 0)), (0, (6, 0))]) (stN := [(0, x3), (0, x2), (0, x1), (4, 1)]) (hsN := jpA_267) (c1 := 0) (s1 := 0) (c2 := 0) (s2 := 0) (by exact rfl) ?_ (by omega) (by omega)
  refine jT_fB [1, 15, 16, 17, 18, 19, 20, 21, 22, 23, 24, 25, 26, 27, 28, 29] 30 (y := 263) (pcN := 1910) (dC := 2) (bc1 := 0) (bc2 := 0) (c1 := 0) (c2 := 0) (as := [(4, 1), (0, x1), (0, x2), (0, x3)]) (asC := [(4, 0), (0, x1), (0, x2), (0, x3)]) (LN := [(6, (0, 2)), (5, (0, 0)), (4, (4, 3)), (3, (4, 2)), (2, (4, 1)), (1, (4, 0)), (0, (6, 0))]) (stN := []) (hsC := jpA_22) (hsD := jpA_361) (v := (1, 0)) (st2 := [(1, 0)]) (hs2 := jpA_607) (jA_263_1275 (d := 0) (by omega) (by omega) (by omega)) (by rfl) (by rfl) (by decide +kernel) (by rfl) (by rfl) (by omega) (by omega) (by omega) (by omega) rfl (by decide +kernel) ?_
  refine jT_xlstore (v := (1, 0)) (LN := [(7, (1, 0)), (6, (0, 2)), (5, (0, 0)), (4, (4, 3)), (3, (4, 2)), (2, (4, 1)), (1, (4, 0)), (0, (6, 0))]) (pcN := 1912) jI_379_1910 rfl rfl rfl rfl ?_
  refine jT_xaload_n (v := (4, 1)) (pcN := 1913) jI_379_1912 rfl rfl rfl ?_
  refine jT_fR [1, 15, 16, 17, 18, 19, 20, 21, 22, 23, 24, 25, 26, 27, 28, 29] 30 (y := 186) (pcN := 1916) (dC := 0) (bc1 := 0) (bc2 := 0) (c1 := 0) (c2 := 0) (as := [(4, 1)]) (asC := [(4, 0)]) (LN := [(7, (1, 0)), (6, (0, 2)), (5, (0, 0)), (4, (4, 3)), (3, (4, 2)), (2, (4, 1)), (1, (4, 0)), (0, (6, 0))]) (stN := []) (hsC := jpA_361) (v := (0, 2)) (st2 := [(0, 2)]) (jA_186_101 (d := 0)) (by rfl) (by rfl) (by decide +kernel) (by rfl) (by rfl) (by omega) (by omega) (by omega) (by omega) rfl ?_
  refine jT_xiload (v := (0, 2)) (pcN := 1918) jI_379_1916 rfl rfl rfl ?_
  refine jT_xicT (pcN := 1923) jI_379_1918 rfl (by decide +kernel) rfl ?_
  refine jT_xiload (v := (0, 2)) (pcN := 1925) jI_379_1923 rfl rfl rfl ?_
  refine jT_xifT (pcN := 1939) jI_379_1925 rfl (by decide +kernel) rfl ?_
  refine jT_xgoto (pcN := 3740) jI_379_1939 rfl ?_
  refine jT_xiinc (x := 0) (z := 5) (LN := [(5, (0, 5)), (7, (1, 0)), (6, (0, 2)), (4, (4, 3)), (3, (4, 2)), (2, (4, 1)), (1, (4, 0)), (0, (6, 0))]) (pcN := 3743) jI_379_3740 rfl rfl (by decide) rfl rfl ?_
  refine jT_xgoto (pcN := 28) jI_379_3743 rfl ?_
  refine jT_xiload (v := (0, 5)) (pcN := 30) jI_379_28 rfl rfl rfl ?_
  refine jT_xaload_n (v := (6, 0)) (pcN := 31) jI_379_30 rfl rfl rfl ?_
  refine jT_adv 1 (pcN := 32) (LN := [(5, (0, 5)), (7, (1, 0)), (6, (0, 2)), (4, (4, 3)), (3, (4, 2)), (2, (4, 1)), (1, (4, 0)), (0, (6, 0))]) (stN := [(0, 5), (0, 5)]) (hsN := jpA_607) (c1 := 0) (s1 := 0) (c2 := 0) (s2 := 0) (by exact rfl) ?_ (by omega) (by omega)
  refine jT_xiconst (k := 5) (pcN := 33) jI_379_32 rfl ?_
  refine jT_xisub (x := 5) (y := 5) (z := 0) (pcN := 34) jI_379_33 rfl (by decide) rfl ?_
  refine jT_xicT (pcN := 3746) jI_379_34 rfl (by decide +kernel) rfl ?_
  refine jT_xiconst (k := 1) (pcN := 3747) jI_379_3746 rfl ?_
  exact jT_ret rfl (by decide) (by show 30 ≤ 30; decide) (by omega) (by omega) ⟨rfl, rfl⟩
def jpA_4391 : List JC := [jzA_265, jzA_266, (101, [], [0]), jgh, (8, [(4, 30), (4, 31)], []), jgh, jgh, jgh, jgh, jgh, jgh, jgh, jgh, jgh, jzA_721, (100, [], jS0), jgh, jgh, jgh, jgh, (130, [], [37, 38, 39, 40, 41, 42]), (101, [], [0, 0, 0, 0, 0, 0]), jgh, jgh, jgh, jgh, jgh, jgh, jgh, jgh, jgh, jgh, jzA_324, jgh, jgh, jgh, jgh, (100, [], (jenc (jlg 0))), jgh, jgh, jgh, jgh, jgh, (4, [(4, 44), (1, 1)], []), (101, [], [0, 0, 0, 0, 0, 0]), (101, [], [0, 0, 0, 0, 0, 0]), (101, [], [0, 0, 0, 0, 0, 0]), (101, [], [(-1), 0, 0, 0, 0, 0]), (100, [], (jenc 0)), (100, [], (jenc (-1))), (100, [], (jenc ((-1) * (jlg 0))))]
theorem jI_379_1928 : jmI (jm 379) 1928 = (.aload_n 3, 1) := by rfl
theorem jI_379_1929 : jmI (jm 379) 1929 = (.iconst 0, 1) := by rfl
theorem jI_379_1930 : jmI (jm 379) 1930 = (.laload, 1) := by rfl
theorem jI_379_1931 : jmI (jm 379) 1931 = (.lload 7, 2) := by rfl
theorem jI_379_1934 : jmI (jm 379) 1934 = (.ifCond .eq 5, 3) := by rfl
set_option maxRecDepth 100000 in
theorem jL_22_3 {d : Nat} {x0 x1 x2 x3 x4 : Int} (h_x0 : (-2147483648) ≤ x0 ∧ x0 ≤ 2147483647) (h_x1 : 0 ≤ x1 ∧ x1 ≤ 7) (h_x2 : 0 ≤ x2 ∧ x2 ≤ 0) (h_x3 : 0 ≤ x3 ∧ x3 ≤ 0) (h_x4 : (-2147483648) ≤ x4 ∧ x4 ≤ 2147483647) : jT [x0, x1, x2, x3, x4] (d + 8) 379 45 1863 [(5, (0, 0)), (4, (4, 3)), (3, (4, 2)), (2, (4, 1)), (1, (4, 0)), (0, (6, 0))] [] jpA_4078 6 186 (fun k v hsN => k = 0 ∧ v = (0, 1)) := by
  refine jT_xaload_n (v := (4, 0)) (pcN := 1864) jI_379_1863 rfl rfl rfl ?_
  refine jT_xaload_n (v := (6, 0)) (pcN := 1865) jI_379_1864 rfl rfl rfl ?_
  refine jT_xiload (v := (0, 0)) (pcN := 1867) jI_379_1865 rfl rfl rfl ?_
  refine jT_xiconst (k := 1) (pcN := 1868) jI_379_1867 rfl ?_
  refine jT_xiadd (x := 0) (y := 1) (z := 1) (pcN := 1869) jI_379_1868 rfl (by decide) rfl ?_
  refine jT_adv 1 (pcN := 1870) (LN := [(5, (0, 0)), (4, (4, 3)), (3, (4, 2)), (2, (4, 1)), (1, (4, 0)), (0, (6, 0))]) (stN := [(0, x1), (4, 0)]) (hsN := jpA_4078) (c1 := 0) (s1 := 0) (c2 := 6) (s2 := 186) (by exact rfl) ?_ (by omega) (by omega)
  refine jT_xaload_n (v := (6, 0)) (pcN := 1871) jI_379_1870 rfl rfl rfl ?_
  refine jT_xiload (v := (0, 0)) (pcN := 1873) jI_379_1871 rfl rfl rfl ?_
  refine jT_xiconst (k := 2) (pcN := 1874) jI_379_1873 rfl ?_
  refine jT_xiadd (x := 0) (y := 2) (z := 2) (pcN := 1875) jI_379_1874 rfl (by decide) rfl ?_
  refine jT_adv 1 (pcN := 1876) (LN := [(5, (0, 0)), (4, (4, 3)), (3, (4, 2)), (2, (4, 1)), (1, (4, 0)), (0, (6, 0))]) (stN := [(0, x2), (0, x1), (4, 0)]) (hsN := jpA_4078) (c1 := 0) (s1 := 0) (c2 := 6) (s2 := 186) (by exact rfl) ?_ (by omega) (by omega)
  refine jT_eq (LN := [(5, (0, 0)), (4, (4, 3)), (3, (4, 2)), (2, (4, 1)), (1, (4, 0)), (0, (6, 0))]) (stN := [(0, 0), (0, x1), (4, 0)]) (hsN := [jzA_265, jzA_266, (101, [], [0]), jgh, (8, [(4, 30), (4, 31)], []), jgh, jgh, jgh, jgh, jgh, jgh, jgh, jgh, jgh, jzA_721, (100, [], jS0), jgh, jgh, jgh, jgh, (130, [], [37, 38, 39, 40, 41, 42]), (101, [], [0, 0, 0, 0, 0, 0]), jgh, jgh, jgh, jgh, jgh, jgh, jgh, jgh, jgh, jgh, jzA_324, jgh, jgh, jgh, jgh, (100, [], (jenc (jlg 0))), jgh, jgh, jgh, jgh, jgh, (4, [(4, 44), (1, 1)], []), (101, [], [0, 0, 0, 0, 0, 0])]) (rfl) (by simp only [List.cons.injEq, Prod.mk.injEq, and_true, true_and] <;> ((try unfold jw); (try unfold jwl); omega)) (rfl) ?_
  refine jT_xaload_n (v := (6, 0)) (pcN := 1877) jI_379_1876 rfl rfl rfl ?_
  refine jT_xiload (v := (0, 0)) (pcN := 1879) jI_379_1877 rfl rfl rfl ?_
  refine jT_xiconst (k := 3) (pcN := 1880) jI_379_1879 rfl ?_
  refine jT_xiadd (x := 0) (y := 3) (z := 3) (pcN := 1881) jI_379_1880 rfl (by decide) rfl ?_
  refine jT_adv 1 (pcN := 1882) (LN := [(5, (0, 0)), (4, (4, 3)), (3, (4, 2)), (2, (4, 1)), (1, (4, 0)), (0, (6, 0))]) (stN := [(0, x3), (0, 0), (0, x1), (4, 0)]) (hsN := jpA_4078) (c1 := 0) (s1 := 0) (c2 := 6) (s2 := 186) (by exact rfl) ?_ (by omega) (by omega)
  refine jT_eq (LN := [(5, (0, 0)), (4, (4, 3)), (3, (4, 2)), (2, (4, 1)), (1, (4, 0)), (0, (6, 0))]) (stN := [(0, 0), (0, 0), (0, x1), (4, 0)]) (hsN := [jzA_265, jzA_266, (101, [], [0]), jgh, (8, [(4, 30), (4, 31)], []), jgh, jgh, jgh, jgh, jgh, jgh, jgh, jgh, jgh, jzA_721, (100, [], jS0), jgh, jgh, jgh, jgh, (130, [], [37, 38, 39, 40, 41, 42]), (101, [], [0, 0, 0, 0, 0, 0]), jgh, jgh, jgh, jgh, jgh, jgh, jgh, jgh, jgh, jgh, jzA_324, jgh, jgh, jgh, jgh, (100, [], (jenc (jlg 0))), jgh, jgh, jgh, jgh, jgh, (4, [(4, 44), (1, 1)], []), (101, [], [0, 0, 0, 0, 0, 0])]) (rfl) (by simp only [List.cons.injEq, Prod.mk.injEq, and_true, true_and] <;> ((try unfold jw); (try unfold jwl); omega)) (rfl) ?_
  refine jT_xaload_n (v := (4, 2)) (pcN := 1883) jI_379_1882 rfl rfl rfl ?_
  refine jT_fR [0, 2, 4, 5, 6, 7, 8, 9, 10, 11, 12, 13, 14, 30, 31, 32, 33, 34, 35, 36, 43, 44] 45 (y := 347) (pcN := 1886) (dC := 5) (bc1 := 0) (bc2 := 0) (c1 := 6) (c2 := 186) (as := [(4, 0), (0, x1), (0, 0), (0, 0), (4, 2)]) (asC := [(4, 0), (0, x1), (0, 0), (0, 0), (4, 1)]) (LN := [(5, (0, 0)), (4, (4, 3)), (3, (4, 2)), (2, (4, 1)), (1, (4, 0)), (0, (6, 0))]) (stN := []) (hsC := jpA_4038) (v := (0, 0)) (st2 := [(0, 0)]) (jA_347_1284 (d := 0) (by omega)) (by rfl) (by rfl) (by decide +kernel) (by rfl) (by rfl) (by omega) (by omega) (by omega) (by omega) rfl ?_
  refine jT_xistore (v := (0, 0)) (LN := [(6, (0, 0)), (5, (0, 0)), (4, (4, 3)), (3, (4, 2)), (2, (4, 1)), (1, (4, 0)), (0, (6, 0))]) (pcN := 1888) jI_379_1886 rfl rfl rfl rfl ?_
  refine jT_xaload_n (v := (4, 1)) (pcN := 1889) jI_379_1888 rfl rfl rfl ?_
  refine jT_xaload_n (v := (6, 0)) (pcN := 1890) jI_379_1889 rfl rfl rfl ?_
  refine jT_xiload (v := (0, 0)) (pcN := 1892) jI_379_1890 rfl rfl rfl ?_
  refine jT_xiconst (k := 1) (pcN := 1893) jI_379_1892 rfl ?_
  refine jT_xiadd (x := 0) (y := 1) (z := 1) (pcN := 1894) jI_379_1893 rfl (by decide) rfl ?_
  refine jT_adv 1 (pcN := 1895) (LN := [(6, (0, 0)), (5, (0, 0)), (4, (4, 3)), (3, (4, 2)), (2, (4, 1)), (1, (4, 0)), (0, (6, 0))]) (stN := [(0, x1), (4, 1)]) (hsN := jpA_4078) (c1 := 0) (s1 := 0) (c2 := 6) (s2 := 186) (by exact rfl) ?_ (by omega) (by omega)
  refine jT_xaload_n (v := (6, 0)) (pcN := 1896) jI_379_1895 rfl rfl rfl ?_
  refine jT_xiload (v := (0, 0)) (pcN := 1898) jI_379_1896 rfl rfl rfl ?_
  refine jT_xiconst (k := 2) (pcN := 1899) jI_379_1898 rfl ?_
  refine jT_xiadd (x := 0) (y := 2) (z := 2) (pcN := 1900) jI_379_1899 rfl (by decide) rfl ?_
  refine jT_adv 1 (pcN := 1901) (LN := [(6, (0, 0)), (5, (0, 0)), (4, (4, 3)), (3, (4, 2)), (2, (4, 1)), (1, (4, 0)), (0, (6, 0))]) (stN := [(0, x2), (0, x1), (4, 1)]) (hsN := jpA_4078) (c1 := 0) (s1 := 0) (c2 := 6) (s2 := 186) (by exact rfl) ?_ (by omega) (by omega)
  refine jT_eq (LN := [(6, (0, 0)), (5, (0, 0)), (4, (4, 3)), (3, (4, 2)), (2, (4, 1)), (1, (4, 0)), (0, (6, 0))]) (stN := [(0, 0), (0, x1), (4, 1)]) (hsN := [jzA_265, jzA_266, (101, [], [0]), jgh, (8, [(4, 30), (4, 31)], []), jgh, jgh, jgh, jgh, jgh, jgh, jgh, jgh, jgh, jzA_721, (100, [], jS0), jgh, jgh, jgh, jgh, (130, [], [37, 38, 39, 40, 41, 42]), (101, [], [0, 0, 0, 0, 0, 0]), jgh, jgh, jgh, jgh, jgh, jgh, jgh, jgh, jgh, jgh, jzA_324, jgh, jgh, jgh, jgh, (100, [], (jenc (jlg 0))), jgh, jgh, jgh, jgh, jgh, (4, [(4, 44), (1, 1)], []), (101, [], [0, 0, 0, 0, 0, 0])]) (rfl) (by simp only [List.cons.injEq, Prod.mk.injEq, and_true, true_and] <;> ((try unfold jw); (try unfold jwl); omega)) (rfl) ?_
  refine jT_xaload_n (v := (6, 0)) (pcN := 1902) jI_379_1901 rfl rfl rfl ?_
  refine jT_xiload (v := (0, 0)) (pcN := 1904) jI_379_1902 rfl rfl rfl ?_
  refine jT_xiconst (k := 3) (pcN := 1905) jI_379_1904 rfl ?_
  refine jT_xiadd (x := 0) (y := 3) (z := 3) (pcN := 1906) jI_379_1905 rfl (by decide) rfl ?_
  refine jT_adv 1 (pcN := 1907) (LN := [(6, (0, 0)), (5, (0, 0)), (4, (4, 3)), (3, (4, 2)), (2, (4, 1)), (1, (4, 0)), (0, (6, 0))]) (stN := [(0, x3), (0, 0), (0, x1), (4, 1)]) (hsN := jpA_4078) (c1 := 0) (s1 := 0) (c2 := 6) (s2 := 186) (by exact rfl) ?_ (by omega) (by omega)
  refine jT_eq (LN := [(6, (0, 0)), (5, (0, 0)), (4, (4, 3)), (3, (4, 2)), (2, (4, 1)), (1, (4, 0)), (0, (6, 0))]) (stN := [(0, 0), (0, 0), (0, x1), (4, 1)]) (hsN := [jzA_265, jzA_266, (101, [], [0]), jgh, (8, [(4, 30), (4, 31)], []), jgh, jgh, jgh, jgh, jgh, jgh, jgh, jgh, jgh, jzA_721, (100, [], jS0), jgh, jgh, jgh, jgh, (130, [], [37, 38, 39, 40, 41, 42]), (101, [], [0, 0, 0, 0, 0, 0]), jgh, jgh, jgh, jgh, jgh, jgh, jgh, jgh, jgh, jgh, jzA_324, jgh, jgh, jgh, jgh, (100, [], (jenc (jlg 0))), jgh, jgh, jgh, jgh, jgh, (4, [(4, 44), (1, 1)], []), (101, [], [0, 0, 0, 0, 0, 0])]) (rfl) (by simp only [List.cons.injEq, Prod.mk.injEq, and_true, true_and] <;> ((try unfold jw); (try unfold jwl); omega)) (rfl) ?_
  refine jT_fA [1, 15, 16, 17, 18, 19, 20, 21, 22, 23, 24, 25, 26, 27, 28, 29, 37, 38, 39, 40, 41, 42] 45 (y := 263) (pcN := 1910) (dC := 7) (bc1 := 6) (bc2 := 186) (c1 := 0) (c2 := 0) (as := [(4, 1), (0, x1), (0, 0), (0, 0)]) (asC := [(4, 0), (0, x1), (0, 0), (0, 0)]) (LN := [(6, (0, 0)), (5, (0, 0)), (4, (4, 3)), (3, (4, 2)), (2, (4, 1)), (1, (4, 0)), (0, (6, 0))]) (stN := []) (hsC := jpA_1695) (ex := jpA_4341) (v := (1, 0)) (st2 := [(1, 0)]) (hs2 := jpA_4391) (jA_263_1292 (d := 0) (by omega)) (by rfl) (by rfl) (by decide +kernel) (by rfl) (by rfl) (by omega) (by omega) (by omega) (by omega) rfl (by decide +kernel) ?_
  refine jT_xlstore (v := (1, 0)) (LN := [(7, (1, 0)), (6, (0, 0)), (5, (0, 0)), (4, (4, 3)), (3, (4, 2)), (2, (4, 1)), (1, (4, 0)), (0, (6, 0))]) (pcN := 1912) jI_379_1910 rfl rfl rfl rfl ?_
  refine jT_xaload_n (v := (4, 1)) (pcN := 1913) jI_379_1912 rfl rfl rfl ?_
  refine jT_fR [1, 15, 16, 17, 18, 19, 20, 21, 22, 23, 24, 25, 26, 27, 28, 29] 51 (y := 186) (pcN := 1916) (dC := 0) (bc1 := 0) (bc2 := 0) (c1 := 0) (c2 := 0) (as := [(4, 1)]) (asC := [(4, 0)]) (LN := [(7, (1, 0)), (6, (0, 0)), (5, (0, 0)), (4, (4, 3)), (3, (4, 2)), (2, (4, 1)), (1, (4, 0)), (0, (6, 0))]) (stN := []) (hsC := jpA_22) (v := (0, 0)) (st2 := [(0, 0)]) (jA_186_726 (d := 0)) (by rfl) (by rfl) (by decide +kernel) (by rfl) (by rfl) (by omega) (by omega) (by omega) (by omega) rfl ?_
  refine jT_xiload (v := (0, 0)) (pcN := 1918) jI_379_1916 rfl rfl rfl ?_
  refine jT_xicT (pcN := 1923) jI_379_1918 rfl (by decide +kernel) rfl ?_
  refine jT_xiload (v := (0, 0)) (pcN := 1925) jI_379_1923 rfl rfl rfl ?_
  refine jT_xifF (t := 1939) (pcN := 1928) jI_379_1925 rfl (by decide +kernel) rfl rfl ?_
  refine jT_xaload_n (v := (4, 2)) (pcN := 1929) jI_379_1928 rfl rfl rfl ?_
  refine jT_xiconst (k := 0) (pcN := 1930) jI_379_1929 rfl ?_
  refine jT_lald (x := 0) (a := 2) (j := 0) (fs := []) (X := [0]) jI_379_1930 rfl rfl rfl rfl ?_
  refine jT_eq (LN := [(7, (1, 0)), (6, (0, 0)), (5, (0, 0)), (4, (4, 3)), (3, (4, 2)), (2, (4, 1)), (1, (4, 0)), (0, (6, 0))]) (stN := [(1, 0)]) (hsN := jpA_4391) rfl rfl rfl ?_
  refine jT_xlload (v := (1, 0)) (pcN := 1933) jI_379_1931 rfl rfl rfl ?_
  refine jT_lcmp (a := 0) (b := 0) (z := 0) (by rfl) (by rfl) (by decide +kernel) (by decide +kernel) (by decide) ?_
  refine jT_xifT (pcN := 1939) jI_379_1934 rfl (by decide +kernel) rfl ?_
  refine jT_xgoto (pcN := 3740) jI_379_1939 rfl ?_
  refine jT_xiinc (x := 0) (z := 5) (LN := [(5, (0, 5)), (7, (1, 0)), (6, (0, 0)), (4, (4, 3)), (3, (4, 2)), (2, (4, 1)), (1, (4, 0)), (0, (6, 0))]) (pcN := 3743) jI_379_3740 rfl rfl (by decide) rfl rfl ?_
  refine jT_xgoto (pcN := 28) jI_379_3743 rfl ?_
  refine jT_xiload (v := (0, 5)) (pcN := 30) jI_379_28 rfl rfl rfl ?_
  refine jT_xaload_n (v := (6, 0)) (pcN := 31) jI_379_30 rfl rfl rfl ?_
  refine jT_adv 1 (pcN := 32) (LN := [(5, (0, 5)), (7, (1, 0)), (6, (0, 0)), (4, (4, 3)), (3, (4, 2)), (2, (4, 1)), (1, (4, 0)), (0, (6, 0))]) (stN := [(0, 5), (0, 5)]) (hsN := jpA_4391) (c1 := 0) (s1 := 0) (c2 := 0) (s2 := 0) (by exact rfl) ?_ (by omega) (by omega)
  refine jT_xiconst (k := 5) (pcN := 33) jI_379_32 rfl ?_
  refine jT_xisub (x := 5) (y := 5) (z := 0) (pcN := 34) jI_379_33 rfl (by decide) rfl ?_
  refine jT_xicT (pcN := 3746) jI_379_34 rfl (by decide +kernel) rfl ?_
  refine jT_xiconst (k := 1) (pcN := 3747) jI_379_3746 rfl ?_
  exact jT_ret rfl (by decide) (by show 45 ≤ 51; decide) (by omega) (by omega) ⟨rfl, rfl⟩
def jpA_4397 : List JC := [jzA_265, jzA_266, (101, [], [0]), jgh, (8, [(4, 30), (4, 31)], []), jgh, jgh, jgh, jgh, jgh, jgh, jgh, jgh, jgh, jzA_721, (100, [], jS0), jgh, jgh, jgh, jgh, (130, [], [37, 38, 39, 40, 41, 42]), (101, [], [0, 0, 0, 0, 0, 0]), jgh, jgh, jgh, jgh, jgh, jgh, jgh, jgh, jgh, jgh, jzA_324, jgh, jgh, jgh, jgh, (100, [], (jenc (jlg 0))), jgh, jgh, jgh, jgh, jgh, (4, [(4, 44), (1, 1)], []), (101, [], [0, 0, 0, 0, 0, 0]), (101, [], [0, 0, 0, 0, 0, 0]), (4, [(4, 45), (1, 1)], [])]
def jpA_4398 : List JC := [jzA_265, jzA_266, (101, [], [0]), jgh, (8, [(4, 30), (4, 31)], []), jgh, jgh, jgh, jgh, jgh, jgh, jgh, jgh, jgh, jzA_721, (100, [], jS0), jgh, jgh, jgh, jgh, (130, [], [37, 38, 39, 40, 41, 42]), (101, [], [0, 0, 0, 0, 0, 0]), jgh, jgh, jgh, jgh, jgh, jgh, jgh, jgh, jgh, jgh, jzA_324, jgh, jgh, jgh, jgh, (100, [], (jenc (jlg 0))), jgh, jgh, jgh, jgh, jgh, (4, [(4, 44), (1, 1)], []), (101, [], [0, 0, 0, 0, 0, 0]), (101, [], [0, 0, 0, 0, 0, 0]), (4, [(4, 45), (1, 1)], []), (101, [], [0, 0, 0, 0, 0, 0]), (101, [], [0, 0, 0, 0, 0, 0]), (101, [], [(-1), 0, 0, 0, 0, 0]), (100, [], (jenc 0)), (100, [], (jenc (-1))), (100, [], (jenc ((-1) * (jlg 0)))), (101, [], [0, 0, 0, 0, 0, 0])]
set_option maxRecDepth 100000 in
theorem jL_22_4 {d : Nat} {x0 x1 x2 x3 x4 : Int} (h_x0 : (-2147483648) ≤ x0 ∧ x0 ≤ 2147483647) (h_x1 : 0 ≤ x1 ∧ x1 ≤ 7) (h_x2 : 0 ≤ x2 ∧ x2 ≤ 0) (h_x3 : 1 ≤ x3 ∧ x3 ≤ 1) (h_x4 : (-2147483648) ≤ x4 ∧ x4 ≤ 2147483647) : jT [x0, x1, x2, x3, x4] (d + 8) 379 45 1863 [(5, (0, 0)), (4, (4, 3)), (3, (4, 2)), (2, (4, 1)), (1, (4, 0)), (0, (6, 0))] [] jpA_4078 9 200 (fun k v hsN => k = 0 ∧ v = (0, 1)) := by
  refine jT_xaload_n (v := (4, 0)) (pcN := 1864) jI_379_1863 rfl rfl rfl ?_
  refine jT_xaload_n (v := (6, 0)) (pcN := 1865) jI_379_1864 rfl rfl rfl ?_
  refine jT_xiload (v := (0, 0)) (pcN := 1867) jI_379_1865 rfl rfl rfl ?_
  refine jT_xiconst (k := 1) (pcN := 1868) jI_379_1867 rfl ?_
  refine jT_xiadd (x := 0) (y := 1) (z := 1) (pcN := 1869) jI_379_1868 rfl (by decide) rfl ?_
  refine jT_adv 1 (pcN := 1870) (LN := [(5, (0, 0)), (4, (4, 3)), (3, (4, 2)), (2, (4, 1)), (1, (4, 0)), (0, (6, 0))]) (stN := [(0, x1), (4, 0)]) (hsN := jpA_4078) (c1 := 0) (s1 := 0) (c2 := 9) (s2 := 200) (by exact rfl) ?_ (by omega) (by omega)
  refine jT_xaload_n (v := (6, 0)) (pcN := 1871) jI_379_1870 rfl rfl rfl ?_
  refine jT_xiload (v := (0, 0)) (pcN := 1873) jI_379_1871 rfl rfl rfl ?_
  refine jT_xiconst (k := 2) (pcN := 1874) jI_379_1873 rfl ?_
  refine jT_xiadd (x := 0) (y := 2) (z := 2) (pcN := 1875) jI_379_1874 rfl (by decide) rfl ?_
  refine jT_adv 1 (pcN := 1876) (LN := [(5, (0, 0)), (4, (4, 3)), (3, (4, 2)), (2, (4, 1)), (1, (4, 0)), (0, (6, 0))]) (stN := [(0, x2), (0, x1), (4, 0)]) (hsN := jpA_4078) (c1 := 0) (s1 := 0) (c2 := 9) (s2 := 200) (by exact rfl) ?_ (by omega) (by omega)
  refine jT_eq (LN := [(5, (0, 0)), (4, (4, 3)), (3, (4, 2)), (2, (4, 1)), (1, (4, 0)), (0, (6, 0))]) (stN := [(0, 0), (0, x1), (4, 0)]) (hsN := [jzA_265, jzA_266, (101, [], [0]), jgh, (8, [(4, 30), (4, 31)], []), jgh, jgh, jgh, jgh, jgh, jgh, jgh, jgh, jgh, jzA_721, (100, [], jS0), jgh, jgh, jgh, jgh, (130, [], [37, 38, 39, 40, 41, 42]), (101, [], [0, 0, 0, 0, 0, 0]), jgh, jgh, jgh, jgh, jgh, jgh, jgh, jgh, jgh, jgh, jzA_324, jgh, jgh, jgh, jgh, (100, [], (jenc (jlg 0))), jgh, jgh, jgh, jgh, jgh, (4, [(4, 44), (1, 1)], []), (101, [], [0, 0, 0, 0, 0, 0])]) (rfl) (by simp only [List.cons.injEq, Prod.mk.injEq, and_true, true_and] <;> ((try unfold jw); (try unfold jwl); omega)) (rfl) ?_
  refine jT_xaload_n (v := (6, 0)) (pcN := 1877) jI_379_1876 rfl rfl rfl ?_
  refine jT_xiload (v := (0, 0)) (pcN := 1879) jI_379_1877 rfl rfl rfl ?_
  refine jT_xiconst (k := 3) (pcN := 1880) jI_379_1879 rfl ?_
  refine jT_xiadd (x := 0) (y := 3) (z := 3) (pcN := 1881) jI_379_1880 rfl (by decide) rfl ?_
  refine jT_adv 1 (pcN := 1882) (LN := [(5, (0, 0)), (4, (4, 3)), (3, (4, 2)), (2, (4, 1)), (1, (4, 0)), (0, (6, 0))]) (stN := [(0, x3), (0, 0), (0, x1), (4, 0)]) (hsN := jpA_4078) (c1 := 0) (s1 := 0) (c2 := 9) (s2 := 200) (by exact rfl) ?_ (by omega) (by omega)
  refine jT_eq (LN := [(5, (0, 0)), (4, (4, 3)), (3, (4, 2)), (2, (4, 1)), (1, (4, 0)), (0, (6, 0))]) (stN := [(0, 1), (0, 0), (0, x1), (4, 0)]) (hsN := [jzA_265, jzA_266, (101, [], [0]), jgh, (8, [(4, 30), (4, 31)], []), jgh, jgh, jgh, jgh, jgh, jgh, jgh, jgh, jgh, jzA_721, (100, [], jS0), jgh, jgh, jgh, jgh, (130, [], [37, 38, 39, 40, 41, 42]), (101, [], [0, 0, 0, 0, 0, 0]), jgh, jgh, jgh, jgh, jgh, jgh, jgh, jgh, jgh, jgh, jzA_324, jgh, jgh, jgh, jgh, (100, [], (jenc (jlg 0))), jgh, jgh, jgh, jgh, jgh, (4, [(4, 44), (1, 1)], []), (101, [], [0, 0, 0, 0, 0, 0])]) (rfl) (by simp only [List.cons.injEq, Prod.mk.injEq, and_true, true_and] <;> ((try unfold jw); (try unfold jwl); omega)) (rfl) ?_
  refine jT_xaload_n (v := (4, 2)) (pcN := 1883) jI_379_1882 rfl rfl rfl ?_
  refine jT_fA [0, 2, 4, 5, 6, 7, 8, 9, 10, 11, 12, 13, 14, 30, 31, 32, 33, 34, 35, 36, 43, 44] 45 (y := 347) (pcN := 1886) (dC := 5) (bc1 := 2) (bc2 := 8) (c1 := 7) (c2 := 192) (as := [(4, 0), (0, x1), (0, 0), (0, 1), (4, 2)]) (asC := [(4, 0), (0, x1), (0, 0), (0, 1), (4, 1)]) (LN := [(5, (0, 0)), (4, (4, 3)), (3, (4, 2)), (2, (4, 1)), (1, (4, 0)), (0, (6, 0))]) (stN := []) (hsC := jpA_4038) (ex := [(101, [], [0, 0, 0, 0, 0, 0]), (4, [(4, 22), (1, 1)], [])]) (v := (0, 0)) (st2 := [(0, 0)]) (hs2 := jpA_4397) (jA_347_1297 (d := 0) (by omega)) (by rfl) (by rfl) (by decide +kernel) (by rfl) (by rfl) (by omega) (by omega) (by omega) (by omega) rfl (by decide +kernel) ?_
  refine jT_xistore (v := (0, 0)) (LN := [(6, (0, 0)), (5, (0, 0)), (4, (4, 3)), (3, (4, 2)), (2, (4, 1)), (1, (4, 0)), (0, (6, 0))]) (pcN := 1888) jI_379_1886 rfl rfl rfl rfl ?_
  refine jT_xaload_n (v := (4, 1)) (pcN := 1889) jI_379_1888 rfl rfl rfl ?_
  refine jT_xaload_n (v := (6, 0)) (pcN := 1890) jI_379_1889 rfl rfl rfl ?_
  refine jT_xiload (v := (0, 0)) (pcN := 1892) jI_379_1890 rfl rfl rfl ?_
  refine jT_xiconst (k := 1) (pcN := 1893) jI_379_1892 rfl ?_
  refine jT_xiadd (x := 0) (y := 1) (z := 1) (pcN := 1894) jI_379_1893 rfl (by decide) rfl ?_
  refine jT_adv 1 (pcN := 1895) (LN := [(6, (0, 0)), (5, (0, 0)), (4, (4, 3)), (3, (4, 2)), (2, (4, 1)), (1, (4, 0)), (0, (6, 0))]) (stN := [(0, x1), (4, 1)]) (hsN := jpA_4397) (c1 := 0) (s1 := 0) (c2 := 7) (s2 := 192) (by exact rfl) ?_ (by omega) (by omega)
  refine jT_xaload_n (v := (6, 0)) (pcN := 1896) jI_379_1895 rfl rfl rfl ?_
  refine jT_xiload (v := (0, 0)) (pcN := 1898) jI_379_1896 rfl rfl rfl ?_
  refine jT_xiconst (k := 2) (pcN := 1899) jI_379_1898 rfl ?_
  refine jT_xiadd (x := 0) (y := 2) (z := 2) (pcN := 1900) jI_379_1899 rfl (by decide) rfl ?_
  refine jT_adv 1 (pcN := 1901) (LN := [(6, (0, 0)), (5, (0, 0)), (4, (4, 3)), (3, (4, 2)), (2, (4, 1)), (1, (4, 0)), (0, (6, 0))]) (stN := [(0, x2), (0, x1), (4, 1)]) (hsN := jpA_4397) (c1 := 0) (s1 := 0) (c2 := 7) (s2 := 192) (by exact rfl) ?_ (by omega) (by omega)
  refine jT_eq (LN := [(6, (0, 0)), (5, (0, 0)), (4, (4, 3)), (3, (4, 2)), (2, (4, 1)), (1, (4, 0)), (0, (6, 0))]) (stN := [(0, 0), (0, x1), (4, 1)]) (hsN := [jzA_265, jzA_266, (101, [], [0]), jgh, (8, [(4, 30), (4, 31)], []), jgh, jgh, jgh, jgh, jgh, jgh, jgh, jgh, jgh, jzA_721, (100, [], jS0), jgh, jgh, jgh, jgh, (130, [], [37, 38, 39, 40, 41, 42]), (101, [], [0, 0, 0, 0, 0, 0]), jgh, jgh, jgh, jgh, jgh, jgh, jgh, jgh, jgh, jgh, jzA_324, jgh, jgh, jgh, jgh, (100, [], (jenc (jlg 0))), jgh, jgh, jgh, jgh, jgh, (4, [(4, 44), (1, 1)], []), (101, [], [0, 0, 0, 0, 0, 0]), (101, [], [0, 0, 0, 0, 0, 0]), (4, [(4, 45), (1, 1)], [])]) (rfl) (by simp only [List.cons.injEq, Prod.mk.injEq, and_true, true_and] <;> ((try unfold jw); (try unfold jwl); omega)) (rfl) ?_
  refine jT_xaload_n (v := (6, 0)) (pcN := 1902) jI_379_1901 rfl rfl rfl ?_
  refine jT_xiload (v := (0, 0)) (pcN := 1904) jI_379_1902 rfl rfl rfl ?_
  refine jT_xiconst (k := 3) (pcN := 1905) jI_379_1904 rfl ?_
  refine jT_xiadd (x := 0) (y := 3) (z := 3) (pcN := 1906) jI_379_1905 rfl (by decide) rfl ?_
  refine jT_adv 1 (pcN := 1907) (LN := [(6, (0, 0)), (5, (0, 0)), (4, (4, 3)), (3, (4, 2)), (2, (4, 1)), (1, (4, 0)), (0, (6, 0))]) (stN := [(0, x3), (0, 0), (0, x1), (4, 1)]) (hsN := jpA_4397) (c1 := 0) (s1 := 0) (c2 := 7) (s2 := 192) (by exact rfl) ?_ (by omega) (by omega)
  refine jT_eq (LN := [(6, (0, 0)), (5, (0, 0)), (4, (4, 3)), (3, (4, 2)), (2, (4, 1)), (1, (4, 0)), (0, (6, 0))]) (stN := [(0, 1), (0, 0), (0, x1), (4, 1)]) (hsN := [jzA_265, jzA_266, (101, [], [0]), jgh, (8, [(4, 30), (4, 31)], []), jgh, jgh, jgh, jgh, jgh, jgh, jgh, jgh, jgh, jzA_721, (100, [], jS0), jgh, jgh, jgh, jgh, (130, [], [37, 38, 39, 40, 41, 42]), (101, [], [0, 0, 0, 0, 0, 0]), jgh, jgh, jgh, jgh, jgh, jgh, jgh, jgh, jgh, jgh, jzA_324, jgh, jgh, jgh, jgh, (100, [], (jenc (jlg 0))), jgh, jgh, jgh, jgh, jgh, (4, [(4, 44), (1, 1)], []), (101, [], [0, 0, 0, 0, 0, 0]), (101, [], [0, 0, 0, 0, 0, 0]), (4, [(4, 45), (1, 1)], [])]) (rfl) (by simp only [List.cons.injEq, Prod.mk.injEq, and_true, true_and] <;> ((try unfold jw); (try unfold jwl); omega)) (rfl) ?_
  refine jT_fA [1, 15, 16, 17, 18, 19, 20, 21, 22, 23, 24, 25, 26, 27, 28, 29, 37, 38, 39, 40, 41, 42] 47 (y := 263) (pcN := 1910) (dC := 7) (bc1 := 7) (bc2 := 192) (c1 := 0) (c2 := 0) (as := [(4, 1), (0, x1), (0, 0), (0, 1)]) (asC := [(4, 0), (0, x1), (0, 0), (0, 1)]) (LN := [(6, (0, 0)), (5, (0, 0)), (4, (4, 3)), (3, (4, 2)), (2, (4, 1)), (1, (4, 0)), (0, (6, 0))]) (stN := []) (hsC := jpA_1695) (ex := jpA_4354) (v := (1, 0)) (st2 := [(1, 0)]) (hs2 := jpA_4398) (jA_263_1300 (d := 0) (by omega)) (by rfl) (by rfl) (by decide +kernel) (by rfl) (by rfl) (by omega) (by omega) (by omega) (by omega) rfl (by decide +kernel) ?_
  refine jT_xlstore (v := (1, 0)) (LN := [(7, (1, 0)), (6, (0, 0)), (5, (0, 0)), (4, (4, 3)), (3, (4, 2)), (2, (4, 1)), (1, (4, 0)), (0, (6, 0))]) (pcN := 1912) jI_379_1910 rfl rfl rfl rfl ?_
  refine jT_xaload_n (v := (4, 1)) (pcN := 1913) jI_379_1912 rfl rfl rfl ?_
  refine jT_fR [1, 15, 16, 17, 18, 19, 20, 21, 22, 23, 24, 25, 26, 27, 28, 29] 54 (y := 186) (pcN := 1916) (dC := 0) (bc1 := 0) (bc2 := 0) (c1 := 0) (c2 := 0) (as := [(4, 1)]) (asC := [(4, 0)]) (LN := [(7, (1, 0)), (6, (0, 0)), (5, (0, 0)), (4, (4, 3)), (3, (4, 2)), (2, (4, 1)), (1, (4, 0)), (0, (6, 0))]) (stN := []) (hsC := jpA_22) (v := (0, 0)) (st2 := [(0, 0)]) (jA_186_726 (d := 0)) (by rfl) (by rfl) (by decide +kernel) (by rfl) (by rfl) (by omega) (by omega) (by omega) (by omega) rfl ?_
  refine jT_xiload (v := (0, 0)) (pcN := 1918) jI_379_1916 rfl rfl rfl ?_
  refine jT_xicT (pcN := 1923) jI_379_1918 rfl (by decide +kernel) rfl ?_
  refine jT_xiload (v := (0, 0)) (pcN := 1925) jI_379_1923 rfl rfl rfl ?_
  refine jT_xifF (t := 1939) (pcN := 1928) jI_379_1925 rfl (by decide +kernel) rfl rfl ?_
  refine jT_xaload_n (v := (4, 2)) (pcN := 1929) jI_379_1928 rfl rfl rfl ?_
  refine jT_xiconst (k := 0) (pcN := 1930) jI_379_1929 rfl ?_
  refine jT_lald (x := 0) (a := 2) (j := 0) (fs := []) (X := [0]) jI_379_1930 rfl rfl rfl rfl ?_
  refine jT_eq (LN := [(7, (1, 0)), (6, (0, 0)), (5, (0, 0)), (4, (4, 3)), (3, (4, 2)), (2, (4, 1)), (1, (4, 0)), (0, (6, 0))]) (stN := [(1, 0)]) (hsN := jpA_4398) rfl rfl rfl ?_
  refine jT_xlload (v := (1, 0)) (pcN := 1933) jI_379_1931 rfl rfl rfl ?_
  refine jT_lcmp (a := 0) (b := 0) (z := 0) (by rfl) (by rfl) (by decide +kernel) (by decide +kernel) (by decide) ?_
  refine jT_xifT (pcN := 1939) jI_379_1934 rfl (by decide +kernel) rfl ?_
  refine jT_xgoto (pcN := 3740) jI_379_1939 rfl ?_
  refine jT_xiinc (x := 0) (z := 5) (LN := [(5, (0, 5)), (7, (1, 0)), (6, (0, 0)), (4, (4, 3)), (3, (4, 2)), (2, (4, 1)), (1, (4, 0)), (0, (6, 0))]) (pcN := 3743) jI_379_3740 rfl rfl (by decide) rfl rfl ?_
  refine jT_xgoto (pcN := 28) jI_379_3743 rfl ?_
  refine jT_xiload (v := (0, 5)) (pcN := 30) jI_379_28 rfl rfl rfl ?_
  refine jT_xaload_n (v := (6, 0)) (pcN := 31) jI_379_30 rfl rfl rfl ?_
  refine jT_adv 1 (pcN := 32) (LN := [(5, (0, 5)), (7, (1, 0)), (6, (0, 0)), (4, (4, 3)), (3, (4, 2)), (2, (4, 1)), (1, (4, 0)), (0, (6, 0))]) (stN := [(0, 5), (0, 5)]) (hsN := jpA_4398) (c1 := 0) (s1 := 0) (c2 := 0) (s2 := 0) (by exact rfl) ?_ (by omega) (by omega)
  refine jT_xiconst (k := 5) (pcN := 33) jI_379_32 rfl ?_
  refine jT_xisub (x := 5) (y := 5) (z := 0) (pcN := 34) jI_379_33 rfl (by decide) rfl ?_
  refine jT_xicT (pcN := 3746) jI_379_34 rfl (by decide +kernel) rfl ?_
  refine jT_xiconst (k := 1) (pcN := 3747) jI_379_3746 rfl ?_
  exact jT_ret rfl (by decide) (by show 45 ≤ 54; decide) (by omega) (by omega) ⟨rfl, rfl⟩
set_option maxRecDepth 100000 in
theorem jL_22_5 {d : Nat} {x0 x1 x2 x3 x4 : Int} (h_x0 : (-2147483648) ≤ x0 ∧ x0 ≤ 2147483647) (h_x1 : 0 ≤ x1 ∧ x1 ≤ 7) (h_x2 : 0 ≤ x2 ∧ x2 ≤ 0) (h_x3 : 2 ≤ x3 ∧ x3 ≤ 2) (h_x4 : (-2147483648) ≤ x4 ∧ x4 ≤ 2147483647) : jT [x0, x1, x2, x3, x4] (d + 9) 379 45 1863 [(5, (0, 0)), (4, (4, 3)), (3, (4, 2)), (2, (4, 1)), (1, (4, 0)), (0, (6, 0))] [] jpA_4078 10 360 (fun k v hsN => k = 0 ∧ v = (0, 1)) := by
  refine jT_xaload_n (v := (4, 0)) (pcN := 1864) jI_379_1863 rfl rfl rfl ?_
  refine jT_xaload_n (v := (6, 0)) (pcN := 1865) jI_379_1864 rfl rfl rfl ?_
  refine jT_xiload (v := (0, 0)) (pcN := 1867) jI_379_1865 rfl rfl rfl ?_
  refine jT_xiconst (k := 1) (pcN := 1868) jI_379_1867 rfl ?_
  refine jT_xiadd (x := 0) (y := 1) (z := 1) (pcN := 1869) jI_379_1868 rfl (by decide) rfl ?_
  refine jT_adv 1 (pcN := 1870) (LN := [(5, (0, 0)), (4, (4, 3)), (3, (4, 2)), (2, (4, 1)), (1, (4, 0)), (0, (6, 0))]) (stN := [(0, x1), (4, 0)]) (hsN := jpA_4078) (c1 := 0) (s1 := 0) (c2 := 10) (s2 := 360) (by exact rfl) ?_ (by omega) (by omega)
  refine jT_xaload_n (v := (6, 0)) (pcN := 1871) jI_379_1870 rfl rfl rfl ?_
  refine jT_xiload (v := (0, 0)) (pcN := 1873) jI_379_1871 rfl rfl rfl ?_
  refine jT_xiconst (k := 2) (pcN := 1874) jI_379_1873 rfl ?_
  refine jT_xiadd (x := 0) (y := 2) (z := 2) (pcN := 1875) jI_379_1874 rfl (by decide) rfl ?_
  refine jT_adv 1 (pcN := 1876) (LN := [(5, (0, 0)), (4, (4, 3)), (3, (4, 2)), (2, (4, 1)), (1, (4, 0)), (0, (6, 0))]) (stN := [(0, x2), (0, x1), (4, 0)]) (hsN := jpA_4078) (c1 := 0) (s1 := 0) (c2 := 10) (s2 := 360) (by exact rfl) ?_ (by omega) (by omega)
  refine jT_eq (LN := [(5, (0, 0)), (4, (4, 3)), (3, (4, 2)), (2, (4, 1)), (1, (4, 0)), (0, (6, 0))]) (stN := [(0, 0), (0, x1), (4, 0)]) (hsN := [jzA_265, jzA_266, (101, [], [0]), jgh, (8, [(4, 30), (4, 31)], []), jgh, jgh, jgh, jgh, jgh, jgh, jgh, jgh, jgh, jzA_721, (100, [], jS0), jgh, jgh, jgh, jgh, (130, [], [37, 38, 39, 40, 41, 42]), (101, [], [0, 0, 0, 0, 0, 0]), jgh, jgh, jgh, jgh, jgh, jgh, jgh, jgh, jgh, jgh, jzA_324, jgh, jgh, jgh, jgh, (100, [], (jenc (jlg 0))), jgh, jgh, jgh, jgh, jgh, (4, [(4, 44), (1, 1)], []), (101, [], [0, 0, 0, 0, 0, 0])]) (rfl) (by simp only [List.cons.injEq, Prod.mk.injEq, and_true, true_and] <;> ((try unfold jw); (try unfold jwl); omega)) (rfl) ?_
  refine jT_xaload_n (v := (6, 0)) (pcN := 1877) jI_379_1876 rfl rfl rfl ?_
  refine jT_xiload (v := (0, 0)) (pcN := 1879) jI_379_1877 rfl rfl rfl ?_
  refine jT_xiconst (k := 3) (pcN := 1880) jI_379_1879 rfl ?_
  refine jT_xiadd (x := 0) (y := 3) (z := 3) (pcN := 1881) jI_379_1880 rfl (by decide) rfl ?_
  refine jT_adv 1 (pcN := 1882) (LN := [(5, (0, 0)), (4, (4, 3)), (3, (4, 2)), (2, (4, 1)), (1, (4, 0)), (0, (6, 0))]) (stN := [(0, x3), (0, 0), (0, x1), (4, 0)]) (hsN := jpA_4078) (c1 := 0) (s1 := 0) (c2 := 10) (s2 := 360) (by exact rfl) ?_ (by omega) (by omega)
  refine jT_eq (LN := [(5, (0, 0)), (4, (4, 3)), (3, (4, 2)), (2, (4, 1)), (1, (4, 0)), (0, (6, 0))]) (stN := [(0, 2), (0, 0), (0, x1), (4, 0)]) (hsN := [jzA_265, jzA_266, (101, [], [0]), jgh, (8, [(4, 30), (4, 31)], []), jgh, jgh, jgh, jgh, jgh, jgh, jgh, jgh, jgh, jzA_721, (100, [], jS0), jgh, jgh, jgh, jgh, (130, [], [37, 38, 39, 40, 41, 42]), (101, [], [0, 0, 0, 0, 0, 0]), jgh, jgh, jgh, jgh, jgh, jgh, jgh, jgh, jgh, jgh, jzA_324, jgh, jgh, jgh, jgh, (100, [], (jenc (jlg 0))), jgh, jgh, jgh, jgh, jgh, (4, [(4, 44), (1, 1)], []), (101, [], [0, 0, 0, 0, 0, 0])]) (rfl) (by simp only [List.cons.injEq, Prod.mk.injEq, and_true, true_and] <;> ((try unfold jw); (try unfold jwl); omega)) (rfl) ?_
  refine jT_xaload_n (v := (4, 2)) (pcN := 1883) jI_379_1882 rfl rfl rfl ?_
  refine jT_fR [0, 2, 4, 5, 6, 7, 8, 9, 10, 11, 12, 13, 14, 30, 31, 32, 33, 34, 35, 36, 43, 44] 45 (y := 347) (pcN := 1886) (dC := 6) (bc1 := 0) (bc2 := 0) (c1 := 10) (c2 := 360) (as := [(4, 0), (0, x1), (0, 0), (0, 2), (4, 2)]) (asC := [(4, 0), (0, x1), (0, 0), (0, 2), (4, 1)]) (LN := [(5, (0, 0)), (4, (4, 3)), (3, (4, 2)), (2, (4, 1)), (1, (4, 0)), (0, (6, 0))]) (stN := []) (hsC := jpA_4038) (v := (0, 0)) (st2 := [(0, 0)]) (jA_347_1304 (d := 0) (by omega)) (by rfl) (by rfl) (by decide +kernel) (by rfl) (by rfl) (by omega) (by omega) (by omega) (by omega) rfl ?_
  refine jT_xistore (v := (0, 0)) (LN := [(6, (0, 0)), (5, (0, 0)), (4, (4, 3)), (3, (4, 2)), (2, (4, 1)), (1, (4, 0)), (0, (6, 0))]) (pcN := 1888) jI_379_1886 rfl rfl rfl rfl ?_
  refine jT_xaload_n (v := (4, 1)) (pcN := 1889) jI_379_1888 rfl rfl rfl ?_
  refine jT_xaload_n (v := (6, 0)) (pcN := 1890) jI_379_1889 rfl rfl rfl ?_
  refine jT_xiload (v := (0, 0)) (pcN := 1892) jI_379_1890 rfl rfl rfl ?_
  refine jT_xiconst (k := 1) (pcN := 1893) jI_379_1892 rfl ?_
  refine jT_xiadd (x := 0) (y := 1) (z := 1) (pcN := 1894) jI_379_1893 rfl (by decide) rfl ?_
  refine jT_adv 1 (pcN := 1895) (LN := [(6, (0, 0)), (5, (0, 0)), (4, (4, 3)), (3, (4, 2)), (2, (4, 1)), (1, (4, 0)), (0, (6, 0))]) (stN := [(0, x1), (4, 1)]) (hsN := jpA_4078) (c1 := 0) (s1 := 0) (c2 := 10) (s2 := 360) (by exact rfl) ?_ (by omega) (by omega)
  refine jT_xaload_n (v := (6, 0)) (pcN := 1896) jI_379_1895 rfl rfl rfl ?_
  refine jT_xiload (v := (0, 0)) (pcN := 1898) jI_379_1896 rfl rfl rfl ?_
  refine jT_xiconst (k := 2) (pcN := 1899) jI_379_1898 rfl ?_
  refine jT_xiadd (x := 0) (y := 2) (z := 2) (pcN := 1900) jI_379_1899 rfl (by decide) rfl ?_
  refine jT_adv 1 (pcN := 1901) (LN := [(6, (0, 0)), (5, (0, 0)), (4, (4, 3)), (3, (4, 2)), (2, (4, 1)), (1, (4, 0)), (0, (6, 0))]) (stN := [(0, x2), (0, x1), (4, 1)]) (hsN := jpA_4078) (c1 := 0) (s1 := 0) (c2 := 10) (s2 := 360) (by exact rfl) ?_ (by omega) (by omega)
  refine jT_eq (LN := [(6, (0, 0)), (5, (0, 0)), (4, (4, 3)), (3, (4, 2)), (2, (4, 1)), (1, (4, 0)), (0, (6, 0))]) (stN := [(0, 0), (0, x1), (4, 1)]) (hsN := [jzA_265, jzA_266, (101, [], [0]), jgh, (8, [(4, 30), (4, 31)], []), jgh, jgh, jgh, jgh, jgh, jgh, jgh, jgh, jgh, jzA_721, (100, [], jS0), jgh, jgh, jgh, jgh, (130, [], [37, 38, 39, 40, 41, 42]), (101, [], [0, 0, 0, 0, 0, 0]), jgh, jgh, jgh, jgh, jgh, jgh, jgh, jgh, jgh, jgh, jzA_324, jgh, jgh, jgh, jgh, (100, [], (jenc (jlg 0))), jgh, jgh, jgh, jgh, jgh, (4, [(4, 44), (1, 1)], []), (101, [], [0, 0, 0, 0, 0, 0])]) (rfl) (by simp only [List.cons.injEq, Prod.mk.injEq, and_true, true_and] <;> ((try unfold jw); (try unfold jwl); omega)) (rfl) ?_
  refine jT_xaload_n (v := (6, 0)) (pcN := 1902) jI_379_1901 rfl rfl rfl ?_
  refine jT_xiload (v := (0, 0)) (pcN := 1904) jI_379_1902 rfl rfl rfl ?_
  refine jT_xiconst (k := 3) (pcN := 1905) jI_379_1904 rfl ?_
  refine jT_xiadd (x := 0) (y := 3) (z := 3) (pcN := 1906) jI_379_1905 rfl (by decide) rfl ?_
  refine jT_adv 1 (pcN := 1907) (LN := [(6, (0, 0)), (5, (0, 0)), (4, (4, 3)), (3, (4, 2)), (2, (4, 1)), (1, (4, 0)), (0, (6, 0))]) (stN := [(0, x3), (0, 0), (0, x1), (4, 1)]) (hsN := jpA_4078) (c1 := 0) (s1 := 0) (c2 := 10) (s2 := 360) (by exact rfl) ?_ (by omega) (by omega)
  refine jT_eq (LN := [(6, (0, 0)), (5, (0, 0)), (4, (4, 3)), (3, (4, 2)), (2, (4, 1)), (1, (4, 0)), (0, (6, 0))]) (stN := [(0, 2), (0, 0), (0, x1), (4, 1)]) (hsN := [jzA_265, jzA_266, (101, [], [0]), jgh, (8, [(4, 30), (4, 31)], []), jgh, jgh, jgh, jgh, jgh, jgh, jgh, jgh, jgh, jzA_721, (100, [], jS0), jgh, jgh, jgh, jgh, (130, [], [37, 38, 39, 40, 41, 42]), (101, [], [0, 0, 0, 0, 0, 0]), jgh, jgh, jgh, jgh, jgh, jgh, jgh, jgh, jgh, jgh, jzA_324, jgh, jgh, jgh, jgh, (100, [], (jenc (jlg 0))), jgh, jgh, jgh, jgh, jgh, (4, [(4, 44), (1, 1)], []), (101, [], [0, 0, 0, 0, 0, 0])]) (rfl) (by simp only [List.cons.injEq, Prod.mk.injEq, and_true, true_and] <;> ((try unfold jw); (try unfold jwl); omega)) (rfl) ?_
  refine jT_fA [1, 15, 16, 17, 18, 19, 20, 21, 22, 23, 24, 25, 26, 27, 28, 29, 37, 38, 39, 40, 41, 42] 45 (y := 263) (pcN := 1910) (dC := 8) (bc1 := 10) (bc2 := 360) (c1 := 0) (c2 := 0) (as := [(4, 1), (0, x1), (0, 0), (0, 2)]) (asC := [(4, 0), (0, x1), (0, 0), (0, 2)]) (LN := [(6, (0, 0)), (5, (0, 0)), (4, (4, 3)), (3, (4, 2)), (2, (4, 1)), (1, (4, 0)), (0, (6, 0))]) (stN := []) (hsC := jpA_1695) (ex := jpA_3654) (v := (1, 0)) (st2 := [(1, 0)]) (hs2 := jpA_4079) (jA_263_1306 (d := 0) (by omega)) (by rfl) (by rfl) (by decide +kernel) (by rfl) (by rfl) (by omega) (by omega) (by omega) (by omega) rfl (by decide +kernel) ?_
  refine jT_xlstore (v := (1, 0)) (LN := [(7, (1, 0)), (6, (0, 0)), (5, (0, 0)), (4, (4, 3)), (3, (4, 2)), (2, (4, 1)), (1, (4, 0)), (0, (6, 0))]) (pcN := 1912) jI_379_1910 rfl rfl rfl rfl ?_
  refine jT_xaload_n (v := (4, 1)) (pcN := 1913) jI_379_1912 rfl rfl rfl ?_
  refine jT_fR [1, 15, 16, 17, 18, 19, 20, 21, 22, 23, 24, 25, 26, 27, 28, 29] 55 (y := 186) (pcN := 1916) (dC := 0) (bc1 := 0) (bc2 := 0) (c1 := 0) (c2 := 0) (as := [(4, 1)]) (asC := [(4, 0)]) (LN := [(7, (1, 0)), (6, (0, 0)), (5, (0, 0)), (4, (4, 3)), (3, (4, 2)), (2, (4, 1)), (1, (4, 0)), (0, (6, 0))]) (stN := []) (hsC := jpA_22) (v := (0, 0)) (st2 := [(0, 0)]) (jA_186_726 (d := 0)) (by rfl) (by rfl) (by decide +kernel) (by rfl) (by rfl) (by omega) (by omega) (by omega) (by omega) rfl ?_
  refine jT_xiload (v := (0, 0)) (pcN := 1918) jI_379_1916 rfl rfl rfl ?_
  refine jT_xicT (pcN := 1923) jI_379_1918 rfl (by decide +kernel) rfl ?_
  refine jT_xiload (v := (0, 0)) (pcN := 1925) jI_379_1923 rfl rfl rfl ?_
  refine jT_xifF (t := 1939) (pcN := 1928) jI_379_1925 rfl (by decide +kernel) rfl rfl ?_
  refine jT_xaload_n (v := (4, 2)) (pcN := 1929) jI_379_1928 rfl rfl rfl ?_
  refine jT_xiconst (k := 0) (pcN := 1930) jI_379_1929 rfl ?_
  refine jT_lald (x := 0) (a := 2) (j := 0) (fs := []) (X := [0]) jI_379_1930 rfl rfl rfl rfl ?_
  refine jT_eq (LN := [(7, (1, 0)), (6, (0, 0)), (5, (0, 0)), (4, (4, 3)), (3, (4, 2)), (2, (4, 1)), (1, (4, 0)), (0, (6, 0))]) (stN := [(1, 0)]) (hsN := jpA_4079) rfl rfl rfl ?_
  refine jT_xlload (v := (1, 0)) (pcN := 1933) jI_379_1931 rfl rfl rfl ?_
  refine jT_lcmp (a := 0) (b := 0) (z := 0) (by rfl) (by rfl) (by decide +kernel) (by decide +kernel) (by decide) ?_
  refine jT_xifT (pcN := 1939) jI_379_1934 rfl (by decide +kernel) rfl ?_
  refine jT_xgoto (pcN := 3740) jI_379_1939 rfl ?_
  refine jT_xiinc (x := 0) (z := 5) (LN := [(5, (0, 5)), (7, (1, 0)), (6, (0, 0)), (4, (4, 3)), (3, (4, 2)), (2, (4, 1)), (1, (4, 0)), (0, (6, 0))]) (pcN := 3743) jI_379_3740 rfl rfl (by decide) rfl rfl ?_
  refine jT_xgoto (pcN := 28) jI_379_3743 rfl ?_
  refine jT_xiload (v := (0, 5)) (pcN := 30) jI_379_28 rfl rfl rfl ?_
  refine jT_xaload_n (v := (6, 0)) (pcN := 31) jI_379_30 rfl rfl rfl ?_
  refine jT_adv 1 (pcN := 32) (LN := [(5, (0, 5)), (7, (1, 0)), (6, (0, 0)), (4, (4, 3)), (3, (4, 2)), (2, (4, 1)), (1, (4, 0)), (0, (6, 0))]) (stN := [(0, 5), (0, 5)]) (hsN := jpA_4079) (c1 := 0) (s1 := 0) (c2 := 0) (s2 := 0) (by exact rfl) ?_ (by omega) (by omega)
  refine jT_xiconst (k := 5) (pcN := 33) jI_379_32 rfl ?_
  refine jT_xisub (x := 5) (y := 5) (z := 0) (pcN := 34) jI_379_33 rfl (by decide) rfl ?_
  refine jT_xicT (pcN := 3746) jI_379_34 rfl (by decide +kernel) rfl ?_
  refine jT_xiconst (k := 1) (pcN := 3747) jI_379_3746 rfl ?_
  exact jT_ret rfl (by decide) (by show 45 ≤ 55; decide) (by omega) (by omega) ⟨rfl, rfl⟩
set_option maxRecDepth 100000 in
theorem jL_22_6 {d : Nat} {x0 x1 x2 x3 x4 : Int} (h_x0 : (-2147483648) ≤ x0 ∧ x0 ≤ 2147483647) (h_x1 : 0 ≤ x1 ∧ x1 ≤ 7) (h_x2 : 1 ≤ x2 ∧ x2 ≤ 1) (h_x3 : 0 ≤ x3 ∧ x3 ≤ 0) (h_x4 : (-2147483648) ≤ x4 ∧ x4 ≤ 2147483647) : jT [x0, x1, x2, x3, x4] (d + 8) 379 45 1863 [(5, (0, 0)), (4, (4, 3)), (3, (4, 2)), (2, (4, 1)), (1, (4, 0)), (0, (6, 0))] [] jpA_4078 6 186 (fun k v hsN => k = 0 ∧ v = (0, 1)) := by
  refine jT_xaload_n (v := (4, 0)) (pcN := 1864) jI_379_1863 rfl rfl rfl ?_
  refine jT_xaload_n (v := (6, 0)) (pcN := 1865) jI_379_1864 rfl rfl rfl ?_
  refine jT_xiload (v := (0, 0)) (pcN := 1867) jI_379_1865 rfl rfl rfl ?_
  refine jT_xiconst (k := 1) (pcN := 1868) jI_379_1867 rfl ?_
  refine jT_xiadd (x := 0) (y := 1) (z := 1) (pcN := 1869) jI_379_1868 rfl (by decide) rfl ?_
  refine jT_adv 1 (pcN := 1870) (LN := [(5, (0, 0)), (4, (4, 3)), (3, (4, 2)), (2, (4, 1)), (1, (4, 0)), (0, (6, 0))]) (stN := [(0, x1), (4, 0)]) (hsN := jpA_4078) (c1 := 0) (s1 := 0) (c2 := 6) (s2 := 186) (by exact rfl) ?_ (by omega) (by omega)
  refine jT_xaload_n (v := (6, 0)) (pcN := 1871) jI_379_1870 rfl rfl rfl ?_
  refine jT_xiload (v := (0, 0)) (pcN := 1873) jI_379_1871 rfl rfl rfl ?_
  refine jT_xiconst (k := 2) (pcN := 1874) jI_379_1873 rfl ?_
  refine jT_xiadd (x := 0) (y := 2) (z := 2) (pcN := 1875) jI_379_1874 rfl (by decide) rfl ?_
  refine jT_adv 1 (pcN := 1876) (LN := [(5, (0, 0)), (4, (4, 3)), (3, (4, 2)), (2, (4, 1)), (1, (4, 0)), (0, (6, 0))]) (stN := [(0, x2), (0, x1), (4, 0)]) (hsN := jpA_4078) (c1 := 0) (s1 := 0) (c2 := 6) (s2 := 186) (by exact rfl) ?_ (by omega) (by omega)
  refine jT_eq (LN := [(5, (0, 0)), (4, (4, 3)), (3, (4, 2)), (2, (4, 1)), (1, (4, 0)), (0, (6, 0))]) (stN := [(0, 1), (0, x1), (4, 0)]) (hsN := [jzA_265, jzA_266, (101, [], [0]), jgh, (8, [(4, 30), (4, 31)], []), jgh, jgh, jgh, jgh, jgh, jgh, jgh, jgh, jgh, jzA_721, (100, [], jS0), jgh, jgh, jgh, jgh, (130, [], [37, 38, 39, 40, 41, 42]), (101, [], [0, 0, 0, 0, 0, 0]), jgh, jgh, jgh, jgh, jgh, jgh, jgh, jgh, jgh, jgh, jzA_324, jgh, jgh, jgh, jgh, (100, [], (jenc (jlg 0))), jgh, jgh, jgh, jgh, jgh, (4, [(4, 44), (1, 1)], []), (101, [], [0, 0, 0, 0, 0, 0])]) (rfl) (by simp only [List.cons.injEq, Prod.mk.injEq, and_true, true_and] <;> ((try unfold jw); (try unfold jwl); omega)) (rfl) ?_
  refine jT_xaload_n (v := (6, 0)) (pcN := 1877) jI_379_1876 rfl rfl rfl ?_
  refine jT_xiload (v := (0, 0)) (pcN := 1879) jI_379_1877 rfl rfl rfl ?_
  refine jT_xiconst (k := 3) (pcN := 1880) jI_379_1879 rfl ?_
  refine jT_xiadd (x := 0) (y := 3) (z := 3) (pcN := 1881) jI_379_1880 rfl (by decide) rfl ?_
  refine jT_adv 1 (pcN := 1882) (LN := [(5, (0, 0)), (4, (4, 3)), (3, (4, 2)), (2, (4, 1)), (1, (4, 0)), (0, (6, 0))]) (stN := [(0, x3), (0, 1), (0, x1), (4, 0)]) (hsN := jpA_4078) (c1 := 0) (s1 := 0) (c2 := 6) (s2 := 186) (by exact rfl) ?_ (by omega) (by omega)
  refine jT_eq (LN := [(5, (0, 0)), (4, (4, 3)), (3, (4, 2)), (2, (4, 1)), (1, (4, 0)), (0, (6, 0))]) (stN := [(0, 0), (0, 1), (0, x1), (4, 0)]) (hsN := [jzA_265, jzA_266, (101, [], [0]), jgh, (8, [(4, 30), (4, 31)], []), jgh, jgh, jgh, jgh, jgh, jgh, jgh, jgh, jgh, jzA_721, (100, [], jS0), jgh, jgh, jgh, jgh, (130, [], [37, 38, 39, 40, 41, 42]), (101, [], [0, 0, 0, 0, 0, 0]), jgh, jgh, jgh, jgh, jgh, jgh, jgh, jgh, jgh, jgh, jzA_324, jgh, jgh, jgh, jgh, (100, [], (jenc (jlg 0))), jgh, jgh, jgh, jgh, jgh, (4, [(4, 44), (1, 1)], []), (101, [], [0, 0, 0, 0, 0, 0])]) (rfl) (by simp only [List.cons.injEq, Prod.mk.injEq, and_true, true_and] <;> ((try unfold jw); (try unfold jwl); omega)) (rfl) ?_
  refine jT_xaload_n (v := (4, 2)) (pcN := 1883) jI_379_1882 rfl rfl rfl ?_
  refine jT_fR [0, 2, 4, 5, 6, 7, 8, 9, 10, 11, 12, 13, 14, 30, 31, 32, 33, 34, 35, 36, 43, 44] 45 (y := 347) (pcN := 1886) (dC := 5) (bc1 := 0) (bc2 := 0) (c1 := 6) (c2 := 186) (as := [(4, 0), (0, x1), (0, 1), (0, 0), (4, 2)]) (asC := [(4, 0), (0, x1), (0, 1), (0, 0), (4, 1)]) (LN := [(5, (0, 0)), (4, (4, 3)), (3, (4, 2)), (2, (4, 1)), (1, (4, 0)), (0, (6, 0))]) (stN := []) (hsC := jpA_4038) (v := (0, 0)) (st2 := [(0, 0)]) (jA_347_1313 (d := 0) (by omega)) (by rfl) (by rfl) (by decide +kernel) (by rfl) (by rfl) (by omega) (by omega) (by omega) (by omega) rfl ?_
  refine jT_xistore (v := (0, 0)) (LN := [(6, (0, 0)), (5, (0, 0)), (4, (4, 3)), (3, (4, 2)), (2, (4, 1)), (1, (4, 0)), (0, (6, 0))]) (pcN := 1888) jI_379_1886 rfl rfl rfl rfl ?_
  refine jT_xaload_n (v := (4, 1)) (pcN := 1889) jI_379_1888 rfl rfl rfl ?_
  refine jT_xaload_n (v := (6, 0)) (pcN := 1890) jI_379_1889 rfl rfl rfl ?_
  refine jT_xiload (v := (0, 0)) (pcN := 1892) jI_379_1890 rfl rfl rfl ?_
  refine jT_xiconst (k := 1) (pcN := 1893) jI_379_1892 rfl ?_
  refine jT_xiadd (x := 0) (y := 1) (z := 1) (pcN := 1894) jI_379_1893 rfl (by decide) rfl ?_
  refine jT_adv 1 (pcN := 1895) (LN := [(6, (0, 0)), (5, (0, 0)), (4, (4, 3)), (3, (4, 2)), (2, (4, 1)), (1, (4, 0)), (0, (6, 0))]) (stN := [(0, x1), (4, 1)]) (hsN := jpA_4078) (c1 := 0) (s1 := 0) (c2 := 6) (s2 := 186) (by exact rfl) ?_ (by omega) (by omega)
  refine jT_xaload_n (v := (6, 0)) (pcN := 1896) jI_379_1895 rfl rfl rfl ?_
  refine jT_xiload (v := (0, 0)) (pcN := 1898) jI_379_1896 rfl rfl rfl ?_
  refine jT_xiconst (k := 2) (pcN := 1899) jI_379_1898 rfl ?_
  refine jT_xiadd (x := 0) (y := 2) (z := 2) (pcN := 1900) jI_379_1899 rfl (by decide) rfl ?_
  refine jT_adv 1 (pcN := 1901) (LN := [(6, (0, 0)), (5, (0, 0)), (4, (4, 3)), (3, (4, 2)), (2, (4, 1)), (1, (4, 0)), (0, (6, 0))]) (stN := [(0, x2), (0, x1), (4, 1)]) (hsN := jpA_4078) (c1 := 0) (s1 := 0) (c2 := 6) (s2 := 186) (by exact rfl) ?_ (by omega) (by omega)
  refine jT_eq (LN := [(6, (0, 0)), (5, (0, 0)), (4, (4, 3)), (3, (4, 2)), (2, (4, 1)), (1, (4, 0)), (0, (6, 0))]) (stN := [(0, 1), (0, x1), (4, 1)]) (hsN := [jzA_265, jzA_266, (101, [], [0]), jgh, (8, [(4, 30), (4, 31)], []), jgh, jgh, jgh, jgh, jgh, jgh, jgh, jgh, jgh, jzA_721, (100, [], jS0), jgh, jgh, jgh, jgh, (130, [], [37, 38, 39, 40, 41, 42]), (101, [], [0, 0, 0, 0, 0, 0]), jgh, jgh, jgh, jgh, jgh, jgh, jgh, jgh, jgh, jgh, jzA_324, jgh, jgh, jgh, jgh, (100, [], (jenc (jlg 0))), jgh, jgh, jgh, jgh, jgh, (4, [(4, 44), (1, 1)], []), (101, [], [0, 0, 0, 0, 0, 0])]) (rfl) (by simp only [List.cons.injEq, Prod.mk.injEq, and_true, true_and] <;> ((try unfold jw); (try unfold jwl); omega)) (rfl) ?_
  refine jT_xaload_n (v := (6, 0)) (pcN := 1902) jI_379_1901 rfl rfl rfl ?_
  refine jT_xiload (v := (0, 0)) (pcN := 1904) jI_379_1902 rfl rfl rfl ?_
  refine jT_xiconst (k := 3) (pcN := 1905) jI_379_1904 rfl ?_
  refine jT_xiadd (x := 0) (y := 3) (z := 3) (pcN := 1906) jI_379_1905 rfl (by decide) rfl ?_
  refine jT_adv 1 (pcN := 1907) (LN := [(6, (0, 0)), (5, (0, 0)), (4, (4, 3)), (3, (4, 2)), (2, (4, 1)), (1, (4, 0)), (0, (6, 0))]) (stN := [(0, x3), (0, 1), (0, x1), (4, 1)]) (hsN := jpA_4078) (c1 := 0) (s1 := 0) (c2 := 6) (s2 := 186) (by exact rfl) ?_ (by omega) (by omega)
  refine jT_eq (LN := [(6, (0, 0)), (5, (0, 0)), (4, (4, 3)), (3, (4, 2)), (2, (4, 1)), (1, (4, 0)), (0, (6, 0))]) (stN := [(0, 0), (0, 1), (0, x1), (4, 1)]) (hsN := [jzA_265, jzA_266, (101, [], [0]), jgh, (8, [(4, 30), (4, 31)], []), jgh, jgh, jgh, jgh, jgh, jgh, jgh, jgh, jgh, jzA_721, (100, [], jS0), jgh, jgh, jgh, jgh, (130, [], [37, 38, 39, 40, 41, 42]), (101, [], [0, 0, 0, 0, 0, 0]), jgh, jgh, jgh, jgh, jgh, jgh, jgh, jgh, jgh, jgh, jzA_324, jgh, jgh, jgh, jgh, (100, [], (jenc (jlg 0))), jgh, jgh, jgh, jgh, jgh, (4, [(4, 44), (1, 1)], []), (101, [], [0, 0, 0, 0, 0, 0])]) (rfl) (by simp only [List.cons.injEq, Prod.mk.injEq, and_true, true_and] <;> ((try unfold jw); (try unfold jwl); omega)) (rfl) ?_
  refine jT_fA [1, 15, 16, 17, 18, 19, 20, 21, 22, 23, 24, 25, 26, 27, 28, 29, 37, 38, 39, 40, 41, 42] 45 (y := 263) (pcN := 1910) (dC := 7) (bc1 := 6) (bc2 := 186) (c1 := 0) (c2 := 0) (as := [(4, 1), (0, x1), (0, 1), (0, 0)]) (asC := [(4, 0), (0, x1), (0, 1), (0, 0)]) (LN := [(6, (0, 0)), (5, (0, 0)), (4, (4, 3)), (3, (4, 2)), (2, (4, 1)), (1, (4, 0)), (0, (6, 0))]) (stN := []) (hsC := jpA_1695) (ex := jpA_4341) (v := (1, 0)) (st2 := [(1, 0)]) (hs2 := jpA_4391) (jA_263_1318 (d := 0) (by omega)) (by rfl) (by rfl) (by decide +kernel) (by rfl) (by rfl) (by omega) (by omega) (by omega) (by omega) rfl (by decide +kernel) ?_
  refine jT_xlstore (v := (1, 0)) (LN := [(7, (1, 0)), (6, (0, 0)), (5, (0, 0)), (4, (4, 3)), (3, (4, 2)), (2, (4, 1)), (1, (4, 0)), (0, (6, 0))]) (pcN := 1912) jI_379_1910 rfl rfl rfl rfl ?_
  refine jT_xaload_n (v := (4, 1)) (pcN := 1913) jI_379_1912 rfl rfl rfl ?_
  refine jT_fR [1, 15, 16, 17, 18, 19, 20, 21, 22, 23, 24, 25, 26, 27, 28, 29] 51 (y := 186) (pcN := 1916) (dC := 0) (bc1 := 0) (bc2 := 0) (c1 := 0) (c2 := 0) (as := [(4, 1)]) (asC := [(4, 0)]) (LN := [(7, (1, 0)), (6, (0, 0)), (5, (0, 0)), (4, (4, 3)), (3, (4, 2)), (2, (4, 1)), (1, (4, 0)), (0, (6, 0))]) (stN := []) (hsC := jpA_22) (v := (0, 0)) (st2 := [(0, 0)]) (jA_186_726 (d := 0)) (by rfl) (by rfl) (by decide +kernel) (by rfl) (by rfl) (by omega) (by omega) (by omega) (by omega) rfl ?_
  refine jT_xiload (v := (0, 0)) (pcN := 1918) jI_379_1916 rfl rfl rfl ?_
  refine jT_xicT (pcN := 1923) jI_379_1918 rfl (by decide +kernel) rfl ?_
  refine jT_xiload (v := (0, 0)) (pcN := 1925) jI_379_1923 rfl rfl rfl ?_
  refine jT_xifF (t := 1939) (pcN := 1928) jI_379_1925 rfl (by decide +kernel) rfl rfl ?_
  refine jT_xaload_n (v := (4, 2)) (pcN := 1929) jI_379_1928 rfl rfl rfl ?_
  refine jT_xiconst (k := 0) (pcN := 1930) jI_379_1929 rfl ?_
  refine jT_lald (x := 0) (a := 2) (j := 0) (fs := []) (X := [0]) jI_379_1930 rfl rfl rfl rfl ?_
  refine jT_eq (LN := [(7, (1, 0)), (6, (0, 0)), (5, (0, 0)), (4, (4, 3)), (3, (4, 2)), (2, (4, 1)), (1, (4, 0)), (0, (6, 0))]) (stN := [(1, 0)]) (hsN := jpA_4391) rfl rfl rfl ?_
  refine jT_xlload (v := (1, 0)) (pcN := 1933) jI_379_1931 rfl rfl rfl ?_
  refine jT_lcmp (a := 0) (b := 0) (z := 0) (by rfl) (by rfl) (by decide +kernel) (by decide +kernel) (by decide) ?_
  refine jT_xifT (pcN := 1939) jI_379_1934 rfl (by decide +kernel) rfl ?_
  refine jT_xgoto (pcN := 3740) jI_379_1939 rfl ?_
  refine jT_xiinc (x := 0) (z := 5) (LN := [(5, (0, 5)), (7, (1, 0)), (6, (0, 0)), (4, (4, 3)), (3, (4, 2)), (2, (4, 1)), (1, (4, 0)), (0, (6, 0))]) (pcN := 3743) jI_379_3740 rfl rfl (by decide) rfl rfl ?_
  refine jT_xgoto (pcN := 28) jI_379_3743 rfl ?_
  refine jT_xiload (v := (0, 5)) (pcN := 30) jI_379_28 rfl rfl rfl ?_
  refine jT_xaload_n (v := (6, 0)) (pcN := 31) jI_379_30 rfl rfl rfl ?_
  refine jT_adv 1 (pcN := 32) (LN := [(5, (0, 5)), (7, (1, 0)), (6, (0, 0)), (4, (4, 3)), (3, (4, 2)), (2, (4, 1)), (1, (4, 0)), (0, (6, 0))]) (stN := [(0, 5), (0, 5)]) (hsN := jpA_4391) (c1 := 0) (s1 := 0) (c2 := 0) (s2 := 0) (by exact rfl) ?_ (by omega) (by omega)
  refine jT_xiconst (k := 5) (pcN := 33) jI_379_32 rfl ?_
  refine jT_xisub (x := 5) (y := 5) (z := 0) (pcN := 34) jI_379_33 rfl (by decide) rfl ?_
  refine jT_xicT (pcN := 3746) jI_379_34 rfl (by decide +kernel) rfl ?_
  refine jT_xiconst (k := 1) (pcN := 3747) jI_379_3746 rfl ?_
  exact jT_ret rfl (by decide) (by show 45 ≤ 51; decide) (by omega) (by omega) ⟨rfl, rfl⟩
set_option maxRecDepth 100000 in
theorem jL_22_7 {d : Nat} {x0 x1 x2 x3 x4 : Int} (h_x0 : (-2147483648) ≤ x0 ∧ x0 ≤ 2147483647) (h_x1 : 0 ≤ x1 ∧ x1 ≤ 7) (h_x2 : 1 ≤ x2 ∧ x2 ≤ 1) (h_x3 : 1 ≤ x3 ∧ x3 ≤ 1) (h_x4 : (-2147483648) ≤ x4 ∧ x4 ≤ 2147483647) : jT [x0, x1, x2, x3, x4] (d + 8) 379 45 1863 [(5, (0, 0)), (4, (4, 3)), (3, (4, 2)), (2, (4, 1)), (1, (4, 0)), (0, (6, 0))] [] jpA_4078 9 200 (fun k v hsN => k = 0 ∧ v = (0, 1)) := by
  refine jT_xaload_n (v := (4, 0)) (pcN := 1864) jI_379_1863 rfl rfl rfl ?_
  refine jT_xaload_n (v := (6, 0)) (pcN := 1865) jI_379_1864 rfl rfl rfl ?_
  refine jT_xiload (v := (0, 0)) (pcN := 1867) jI_379_1865 rfl rfl rfl ?_
  refine jT_xiconst (k := 1) (pcN := 1868) jI_379_1867 rfl ?_
  refine jT_xiadd (x := 0) (y := 1) (z := 1) (pcN := 1869) jI_379_1868 rfl (by decide) rfl ?_
  refine jT_adv 1 (pcN := 1870) (LN := [(5, (0, 0)), (4, (4, 3)), (3, (4, 2)), (2, (4, 1)), (1, (4, 0)), (0, (6, 0))]) (stN := [(0, x1), (4, 0)]) (hsN := jpA_4078) (c1 := 0) (s1 := 0) (c2 := 9) (s2 := 200) (by exact rfl) ?_ (by omega) (by omega)
  refine jT_xaload_n (v := (6, 0)) (pcN := 1871) jI_379_1870 rfl rfl rfl ?_
  refine jT_xiload (v := (0, 0)) (pcN := 1873) jI_379_1871 rfl rfl rfl ?_
  refine jT_xiconst (k := 2) (pcN := 1874) jI_379_1873 rfl ?_
  refine jT_xiadd (x := 0) (y := 2) (z := 2) (pcN := 1875) jI_379_1874 rfl (by decide) rfl ?_
  refine jT_adv 1 (pcN := 1876) (LN := [(5, (0, 0)), (4, (4, 3)), (3, (4, 2)), (2, (4, 1)), (1, (4, 0)), (0, (6, 0))]) (stN := [(0, x2), (0, x1), (4, 0)]) (hsN := jpA_4078) (c1 := 0) (s1 := 0) (c2 := 9) (s2 := 200) (by exact rfl) ?_ (by omega) (by omega)
  refine jT_eq (LN := [(5, (0, 0)), (4, (4, 3)), (3, (4, 2)), (2, (4, 1)), (1, (4, 0)), (0, (6, 0))]) (stN := [(0, 1), (0, x1), (4, 0)]) (hsN := [jzA_265, jzA_266, (101, [], [0]), jgh, (8, [(4, 30), (4, 31)], []), jgh, jgh, jgh, jgh, jgh, jgh, jgh, jgh, jgh, jzA_721, (100, [], jS0), jgh, jgh, jgh, jgh, (130, [], [37, 38, 39, 40, 41, 42]), (101, [], [0, 0, 0, 0, 0, 0]), jgh, jgh, jgh, jgh, jgh, jgh, jgh, jgh, jgh, jgh, jzA_324, jgh, jgh, jgh, jgh, (100, [], (jenc (jlg 0))), jgh, jgh, jgh, jgh, jgh, (4, [(4, 44), (1, 1)], []), (101, [], [0, 0, 0, 0, 0, 0])]) (rfl) (by simp only [List.cons.injEq, Prod.mk.injEq, and_true, true_and] <;> ((try unfold jw); (try unfold jwl); omega)) (rfl) ?_
  refine jT_xaload_n (v := (6, 0)) (pcN := 1877) jI_379_1876 rfl rfl rfl ?_
  refine jT_xiload (v := (0, 0)) (pcN := 1879) jI_379_1877 rfl rfl rfl ?_
  refine jT_xiconst (k := 3) (pcN := 1880) jI_379_1879 rfl ?_
  refine jT_xiadd (x := 0) (y := 3) (z := 3) (pcN := 1881) jI_379_1880 rfl (by decide) rfl ?_
  refine jT_adv 1 (pcN := 1882) (LN := [(5, (0, 0)), (4, (4, 3)), (3, (4, 2)), (2, (4, 1)), (1, (4, 0)), (0, (6, 0))]) (stN := [(0, x3), (0, 1), (0, x1), (4, 0)]) (hsN := jpA_4078) (c1 := 0) (s1 := 0) (c2 := 9) (s2 := 200) (by exact rfl) ?_ (by omega) (by omega)
  refine jT_eq (LN := [(5, (0, 0)), (4, (4, 3)), (3, (4, 2)), (2, (4, 1)), (1, (4, 0)), (0, (6, 0))]) (stN := [(0, 1), (0, 1), (0, x1), (4, 0)]) (hsN := [jzA_265, jzA_266, (101, [], [0]), jgh, (8, [(4, 30), (4, 31)], []), jgh, jgh, jgh, jgh, jgh, jgh, jgh, jgh, jgh, jzA_721, (100, [], jS0), jgh, jgh, jgh, jgh, (130, [], [37, 38, 39, 40, 41, 42]), (101, [], [0, 0, 0, 0, 0, 0]), jgh, jgh, jgh, jgh, jgh, jgh, jgh, jgh, jgh, jgh, jzA_324, jgh, jgh, jgh, jgh, (100, [], (jenc (jlg 0))), jgh, jgh, jgh, jgh, jgh, (4, [(4, 44), (1, 1)], []), (101, [], [0, 0, 0, 0, 0, 0])]) (rfl) (by simp only [List.cons.injEq, Prod.mk.injEq, and_true, true_and] <;> ((try unfold jw); (try unfold jwl); omega)) (rfl) ?_
  refine jT_xaload_n (v := (4, 2)) (pcN := 1883) jI_379_1882 rfl rfl rfl ?_
  refine jT_fA [0, 2, 4, 5, 6, 7, 8, 9, 10, 11, 12, 13, 14, 30, 31, 32, 33, 34, 35, 36, 43, 44] 45 (y := 347) (pcN := 1886) (dC := 5) (bc1 := 2) (bc2 := 8) (c1 := 7) (c2 := 192) (as := [(4, 0), (0, x1), (0, 1), (0, 1), (4, 2)]) (asC := [(4, 0), (0, x1), (0, 1), (0, 1), (4, 1)]) (LN := [(5, (0, 0)), (4, (4, 3)), (3, (4, 2)), (2, (4, 1)), (1, (4, 0)), (0, (6, 0))]) (stN := []) (hsC := jpA_4038) (ex := [(101, [], [0, 0, 0, 0, 0, 0]), (4, [(4, 22), (1, 1)], [])]) (v := (0, 0)) (st2 := [(0, 0)]) (hs2 := jpA_4397) (jA_347_1321 (d := 0) (by omega)) (by rfl) (by rfl) (by decide +kernel) (by rfl) (by rfl) (by omega) (by omega) (by omega) (by omega) rfl (by decide +kernel) ?_
  refine jT_xistore (v := (0, 0)) (LN := [(6, (0, 0)), (5, (0, 0)), (4, (4, 3)), (3, (4, 2)), (2, (4, 1)), (1, (4, 0)), (0, (6, 0))]) (pcN := 1888) jI_379_1886 rfl rfl rfl rfl ?_
  refine jT_xaload_n (v := (4, 1)) (pcN := 1889) jI_379_1888 rfl rfl rfl ?_
  refine jT_xaload_n (v := (6, 0)) (pcN := 1890) jI_379_1889 rfl rfl rfl ?_
  refine jT_xiload (v := (0, 0)) (pcN := 1892) jI_379_1890 rfl rfl rfl ?_
  refine jT_xiconst (k := 1) (pcN := 1893) jI_379_1892 rfl ?_
  refine jT_xiadd (x := 0) (y := 1) (z := 1) (pcN := 1894) jI_379_1893 rfl (by decide) rfl ?_
  refine jT_adv 1 (pcN := 1895) (LN := [(6, (0, 0)), (5, (0, 0)), (4, (4, 3)), (3, (4, 2)), (2, (4, 1)), (1, (4, 0)), (0, (6, 0))]) (stN := [(0, x1), (4, 1)]) (hsN := jpA_4397) (c1 := 0) (s1 := 0) (c2 := 7) (s2 := 192) (by exact rfl) ?_ (by omega) (by omega)
  refine jT_xaload_n (v := (6, 0)) (pcN := 1896) jI_379_1895 rfl rfl rfl ?_
  refine jT_xiload (v := (0, 0)) (pcN := 1898) jI_379_1896 rfl rfl rfl ?_
  refine jT_xiconst (k := 2) (pcN := 1899) jI_379_1898 rfl ?_
  refine jT_xiadd (x := 0) (y := 2) (z := 2) (pcN := 1900) jI_379_1899 rfl (by decide) rfl ?_
  refine jT_adv 1 (pcN := 1901) (LN := [(6, (0, 0)), (5, (0, 0)), (4, (4, 3)), (3, (4, 2)), (2, (4, 1)), (1, (4, 0)), (0, (6, 0))]) (stN := [(0, x2), (0, x1), (4, 1)]) (hsN := jpA_4397) (c1 := 0) (s1 := 0) (c2 := 7) (s2 := 192) (by exact rfl) ?_ (by omega) (by omega)
  refine jT_eq (LN := [(6, (0, 0)), (5, (0, 0)), (4, (4, 3)), (3, (4, 2)), (2, (4, 1)), (1, (4, 0)), (0, (6, 0))]) (stN := [(0, 1), (0, x1), (4, 1)]) (hsN := [jzA_265, jzA_266, (101, [], [0]), jgh, (8, [(4, 30), (4, 31)], []), jgh, jgh, jgh, jgh, jgh, jgh, jgh, jgh, jgh, jzA_721, (100, [], jS0), jgh, jgh, jgh, jgh, (130, [], [37, 38, 39, 40, 41, 42]), (101, [], [0, 0, 0, 0, 0, 0]), jgh, jgh, jgh, jgh, jgh, jgh, jgh, jgh, jgh, jgh, jzA_324, jgh, jgh, jgh, jgh, (100, [], (jenc (jlg 0))), jgh, jgh, jgh, jgh, jgh, (4, [(4, 44), (1, 1)], []), (101, [], [0, 0, 0, 0, 0, 0]), (101, [], [0, 0, 0, 0, 0, 0]), (4, [(4, 45), (1, 1)], [])]) (rfl) (by simp only [List.cons.injEq, Prod.mk.injEq, and_true, true_and] <;> ((try unfold jw); (try unfold jwl); omega)) (rfl) ?_
  refine jT_xaload_n (v := (6, 0)) (pcN := 1902) jI_379_1901 rfl rfl rfl ?_
  refine jT_xiload (v := (0, 0)) (pcN := 1904) jI_379_1902 rfl rfl rfl ?_
  refine jT_xiconst (k := 3) (pcN := 1905) jI_379_1904 rfl ?_
  refine jT_xiadd (x := 0) (y := 3) (z := 3) (pcN := 1906) jI_379_1905 rfl (by decide) rfl ?_
  refine jT_adv 1 (pcN := 1907) (LN := [(6, (0, 0)), (5, (0, 0)), (4, (4, 3)), (3, (4, 2)), (2, (4, 1)), (1, (4, 0)), (0, (6, 0))]) (stN := [(0, x3), (0, 1), (0, x1), (4, 1)]) (hsN := jpA_4397) (c1 := 0) (s1 := 0) (c2 := 7) (s2 := 192) (by exact rfl) ?_ (by omega) (by omega)
  refine jT_eq (LN := [(6, (0, 0)), (5, (0, 0)), (4, (4, 3)), (3, (4, 2)), (2, (4, 1)), (1, (4, 0)), (0, (6, 0))]) (stN := [(0, 1), (0, 1), (0, x1), (4, 1)]) (hsN := [jzA_265, jzA_266, (101, [], [0]), jgh, (8, [(4, 30), (4, 31)], []), jgh, jgh, jgh, jgh, jgh, jgh, jgh, jgh, jgh, jzA_721, (100, [], jS0), jgh, jgh, jgh, jgh, (130, [], [37, 38, 39, 40, 41, 42]), (101, [], [0, 0, 0, 0, 0, 0]), jgh, jgh, jgh, jgh, jgh, jgh, jgh, jgh, jgh, jgh, jzA_324, jgh, jgh, jgh, jgh, (100, [], (jenc (jlg 0))), jgh, jgh, jgh, jgh, jgh, (4, [(4, 44), (1, 1)], []), (101, [], [0, 0, 0, 0, 0, 0]), (101, [], [0, 0, 0, 0, 0, 0]), (4, [(4, 45), (1, 1)], [])]) (rfl) (by simp only [List.cons.injEq, Prod.mk.injEq, and_true, true_and] <;> ((try unfold jw); (try unfold jwl); omega)) (rfl) ?_
  refine jT_fA [1, 15, 16, 17, 18, 19, 20, 21, 22, 23, 24, 25, 26, 27, 28, 29, 37, 38, 39, 40, 41, 42] 47 (y := 263) (pcN := 1910) (dC := 7) (bc1 := 7) (bc2 := 192) (c1 := 0) (c2 := 0) (as := [(4, 1), (0, x1), (0, 1), (0, 1)]) (asC := [(4, 0), (0, x1), (0, 1), (0, 1)]) (LN := [(6, (0, 0)), (5, (0, 0)), (4, (4, 3)), (3, (4, 2)), (2, (4, 1)), (1, (4, 0)), (0, (6, 0))]) (stN := []) (hsC := jpA_1695) (ex := jpA_4354) (v := (1, 0)) (st2 := [(1, 0)]) (hs2 := jpA_4398) (jA_263_1323 (d := 0) (by omega)) (by rfl) (by rfl) (by decide +kernel) (by rfl) (by rfl) (by omega) (by omega) (by omega) (by omega) rfl (by decide +kernel) ?_
  refine jT_xlstore (v := (1, 0)) (LN := [(7, (1, 0)), (6, (0, 0)), (5, (0, 0)), (4, (4, 3)), (3, (4, 2)), (2, (4, 1)), (1, (4, 0)), (0, (6, 0))]) (pcN := 1912) jI_379_1910 rfl rfl rfl rfl ?_
  refine jT_xaload_n (v := (4, 1)) (pcN := 1913) jI_379_1912 rfl rfl rfl ?_
  refine jT_fR [1, 15, 16, 17, 18, 19, 20, 21, 22, 23, 24, 25, 26, 27, 28, 29] 54 (y := 186) (pcN := 1916) (dC := 0) (bc1 := 0) (bc2 := 0) (c1 := 0) (c2 := 0) (as := [(4, 1)]) (asC := [(4, 0)]) (LN := [(7, (1, 0)), (6, (0, 0)), (5, (0, 0)), (4, (4, 3)), (3, (4, 2)), (2, (4, 1)), (1, (4, 0)), (0, (6, 0))]) (stN := []) (hsC := jpA_22) (v := (0, 0)) (st2 := [(0, 0)]) (jA_186_726 (d := 0)) (by rfl) (by rfl) (by decide +kernel) (by rfl) (by rfl) (by omega) (by omega) (by omega) (by omega) rfl ?_
  refine jT_xiload (v := (0, 0)) (pcN := 1918) jI_379_1916 rfl rfl rfl ?_
  refine jT_xicT (pcN := 1923) jI_379_1918 rfl (by decide +kernel) rfl ?_
  refine jT_xiload (v := (0, 0)) (pcN := 1925) jI_379_1923 rfl rfl rfl ?_
  refine jT_xifF (t := 1939) (pcN := 1928) jI_379_1925 rfl (by decide +kernel) rfl rfl ?_
  refine jT_xaload_n (v := (4, 2)) (pcN := 1929) jI_379_1928 rfl rfl rfl ?_
  refine jT_xiconst (k := 0) (pcN := 1930) jI_379_1929 rfl ?_
  refine jT_lald (x := 0) (a := 2) (j := 0) (fs := []) (X := [0]) jI_379_1930 rfl rfl rfl rfl ?_
  refine jT_eq (LN := [(7, (1, 0)), (6, (0, 0)), (5, (0, 0)), (4, (4, 3)), (3, (4, 2)), (2, (4, 1)), (1, (4, 0)), (0, (6, 0))]) (stN := [(1, 0)]) (hsN := jpA_4398) rfl rfl rfl ?_
  refine jT_xlload (v := (1, 0)) (pcN := 1933) jI_379_1931 rfl rfl rfl ?_
  refine jT_lcmp (a := 0) (b := 0) (z := 0) (by rfl) (by rfl) (by decide +kernel) (by decide +kernel) (by decide) ?_
  refine jT_xifT (pcN := 1939) jI_379_1934 rfl (by decide +kernel) rfl ?_
  refine jT_xgoto (pcN := 3740) jI_379_1939 rfl ?_
  refine jT_xiinc (x := 0) (z := 5) (LN := [(5, (0, 5)), (7, (1, 0)), (6, (0, 0)), (4, (4, 3)), (3, (4, 2)), (2, (4, 1)), (1, (4, 0)), (0, (6, 0))]) (pcN := 3743) jI_379_3740 rfl rfl (by decide) rfl rfl ?_
  refine jT_xgoto (pcN := 28) jI_379_3743 rfl ?_
  refine jT_xiload (v := (0, 5)) (pcN := 30) jI_379_28 rfl rfl rfl ?_
  refine jT_xaload_n (v := (6, 0)) (pcN := 31) jI_379_30 rfl rfl rfl ?_
  refine jT_adv 1 (pcN := 32) (LN := [(5, (0, 5)), (7, (1, 0)), (6, (0, 0)), (4, (4, 3)), (3, (4, 2)), (2, (4, 1)), (1, (4, 0)), (0, (6, 0))]) (stN := [(0, 5), (0, 5)]) (hsN := jpA_4398) (c1 := 0) (s1 := 0) (c2 := 0) (s2 := 0) (by exact rfl) ?_ (by omega) (by omega)
  refine jT_xiconst (k := 5) (pcN := 33) jI_379_32 rfl ?_
  refine jT_xisub (x := 5) (y := 5) (z := 0) (pcN := 34) jI_379_33 rfl (by decide) rfl ?_
  refine jT_xicT (pcN := 3746) jI_379_34 rfl (by decide +kernel) rfl ?_
  refine jT_xiconst (k := 1) (pcN := 3747) jI_379_3746 rfl ?_
  exact jT_ret rfl (by decide) (by show 45 ≤ 54; decide) (by omega) (by omega) ⟨rfl, rfl⟩
set_option maxRecDepth 100000 in
theorem jL_22_8 {d : Nat} {x0 x1 x2 x3 x4 : Int} (h_x0 : (-2147483648) ≤ x0 ∧ x0 ≤ 2147483647) (h_x1 : 0 ≤ x1 ∧ x1 ≤ 7) (h_x2 : 1 ≤ x2 ∧ x2 ≤ 1) (h_x3 : 2 ≤ x3 ∧ x3 ≤ 2) (h_x4 : (-2147483648) ≤ x4 ∧ x4 ≤ 2147483647) : jT [x0, x1, x2, x3, x4] (d + 9) 379 45 1863 [(5, (0, 0)), (4, (4, 3)), (3, (4, 2)), (2, (4, 1)), (1, (4, 0)), (0, (6, 0))] [] jpA_4078 10 360 (fun k v hsN => k = 0 ∧ v = (0, 1)) := by
  refine jT_xaload_n (v := (4, 0)) (pcN := 1864) jI_379_1863 rfl rfl rfl ?_
  refine jT_xaload_n (v := (6, 0)) (pcN := 1865) jI_379_1864 rfl rfl rfl ?_
  refine jT_xiload (v := (0, 0)) (pcN := 1867) jI_379_1865 rfl rfl rfl ?_
  refine jT_xiconst (k := 1) (pcN := 1868) jI_379_1867 rfl ?_
  refine jT_xiadd (x := 0) (y := 1) (z := 1) (pcN := 1869) jI_379_1868 rfl (by decide) rfl ?_
  refine jT_adv 1 (pcN := 1870) (LN := [(5, (0, 0)), (4, (4, 3)), (3, (4, 2)), (2, (4, 1)), (1, (4, 0)), (0, (6, 0))]) (stN := [(0, x1), (4, 0)]) (hsN := jpA_4078) (c1 := 0) (s1 := 0) (c2 := 10) (s2 := 360) (by exact rfl) ?_ (by omega) (by omega)
  refine jT_xaload_n (v := (6, 0)) (pcN := 1871) jI_379_1870 rfl rfl rfl ?_
  refine jT_xiload (v := (0, 0)) (pcN := 1873) jI_379_1871 rfl rfl rfl ?_
  refine jT_xiconst (k := 2) (pcN := 1874) jI_379_1873 rfl ?_
  refine jT_xiadd (x := 0) (y := 2) (z := 2) (pcN := 1875) jI_379_1874 rfl (by decide) rfl ?_
  refine jT_adv 1 (pcN := 1876) (LN := [(5, (0, 0)), (4, (4, 3)), (3, (4, 2)), (2, (4, 1)), (1, (4, 0)), (0, (6, 0))]) (stN := [(0, x2), (0, x1), (4, 0)]) (hsN := jpA_4078) (c1 := 0) (s1 := 0) (c2 := 10) (s2 := 360) (by exact rfl) ?_ (by omega) (by omega)
  refine jT_eq (LN := [(5, (0, 0)), (4, (4, 3)), (3, (4, 2)), (2, (4, 1)), (1, (4, 0)), (0, (6, 0))]) (stN := [(0, 1), (0, x1), (4, 0)]) (hsN := [jzA_265, jzA_266, (101, [], [0]), jgh, (8, [(4, 30), (4, 31)], []), jgh, jgh, jgh, jgh, jgh, jgh, jgh, jgh, jgh, jzA_721, (100, [], jS0), jgh, jgh, jgh, jgh, (130, [], [37, 38, 39, 40, 41, 42]), (101, [], [0, 0, 0, 0, 0, 0]), jgh, jgh, jgh, jgh, jgh, jgh, jgh, jgh, jgh, jgh, jzA_324, jgh, jgh, jgh, jgh, (100, [], (jenc (jlg 0))), jgh, jgh, jgh, jgh, jgh, (4, [(4, 44), (1, 1)], []), (101, [], [0, 0, 0, 0, 0, 0])]) (rfl) (by simp only [List.cons.injEq, Prod.mk.injEq, and_true, true_and] <;> ((try unfold jw); (try unfold jwl); omega)) (rfl) ?_
  refine jT_xaload_n (v := (6, 0)) (pcN := 1877) jI_379_1876 rfl rfl rfl ?_
  refine jT_xiload (v := (0, 0)) (pcN := 1879) jI_379_1877 rfl rfl rfl ?_
  refine jT_xiconst (k := 3) (pcN := 1880) jI_379_1879 rfl ?_
  refine jT_xiadd (x := 0) (y := 3) (z := 3) (pcN := 1881) jI_379_1880 rfl (by decide) rfl ?_
  refine jT_adv 1 (pcN := 1882) (LN := [(5, (0, 0)), (4, (4, 3)), (3, (4, 2)), (2, (4, 1)), (1, (4, 0)), (0, (6, 0))]) (stN := [(0, x3), (0, 1), (0, x1), (4, 0)]) (hsN := jpA_4078) (c1 := 0) (s1 := 0) (c2 := 10) (s2 := 360) (by exact rfl) ?_ (by omega) (by omega)
  refine jT_eq (LN := [(5, (0, 0)), (4, (4, 3)), (3, (4, 2)), (2, (4, 1)), (1, (4, 0)), (0, (6, 0))]) (stN := [(0, 2), (0, 1), (0, x1), (4, 0)]) (hsN := [jzA_265, jzA_266, (101, [], [0]), jgh, (8, [(4, 30), (4, 31)], []), jgh, jgh, jgh, jgh, jgh, jgh, jgh, jgh, jgh, jzA_721, (100, [], jS0), jgh, jgh, jgh, jgh, (130, [], [37, 38, 39, 40, 41, 42]), (101, [], [0, 0, 0, 0, 0, 0]), jgh, jgh, jgh, jgh, jgh, jgh, jgh, jgh, jgh, jgh, jzA_324, jgh, jgh, jgh, jgh, (100, [], (jenc (jlg 0))), jgh, jgh, jgh, jgh, jgh, (4, [(4, 44), (1, 1)], []), (101, [], [0, 0, 0, 0, 0, 0])]) (rfl) (by simp only [List.cons.injEq, Prod.mk.injEq, and_true, true_and] <;> ((try unfold jw); (try unfold jwl); omega)) (rfl) ?_
  refine jT_xaload_n (v := (4, 2)) (pcN := 1883) jI_379_1882 rfl rfl rfl ?_
  refine jT_fR [0, 2, 4, 5, 6, 7, 8, 9, 10, 11, 12, 13, 14, 30, 31, 32, 33, 34, 35, 36, 43, 44] 45 (y := 347) (pcN := 1886) (dC := 6) (bc1 := 0) (bc2 := 0) (c1 := 10) (c2 := 360) (as := [(4, 0), (0, x1), (0, 1), (0, 2), (4, 2)]) (asC := [(4, 0), (0, x1), (0, 1), (0, 2), (4, 1)]) (LN := [(5, (0, 0)), (4, (4, 3)), (3, (4, 2)), (2, (4, 1)), (1, (4, 0)), (0, (6, 0))]) (stN := []) (hsC := jpA_4038) (v := (0, 0)) (st2 := [(0, 0)]) (jA_347_1329 (d := 0) (by omega)) (by rfl) (by rfl) (by decide +kernel) (by rfl) (by rfl) (by omega) (by omega) (by omega) (by omega) rfl ?_
  refine jT_xistore (v := (0, 0)) (LN := [(6, (0, 0)), (5, (0, 0)), (4, (4, 3)), (3, (4, 2)), (2, (4, 1)), (1, (4, 0)), (0, (6, 0))]) (pcN := 1888) jI_379_1886 rfl rfl rfl rfl ?_
  refine jT_xaload_n (v := (4, 1)) (pcN := 1889) jI_379_1888 rfl rfl rfl ?_
  refine jT_xaload_n (v := (6, 0)) (pcN := 1890) jI_379_1889 rfl rfl rfl ?_
  refine jT_xiload (v := (0, 0)) (pcN := 1892) jI_379_1890 rfl rfl rfl ?_
  refine jT_xiconst (k := 1) (pcN := 1893) jI_379_1892 rfl ?_
  refine jT_xiadd (x := 0) (y := 1) (z := 1) (pcN := 1894) jI_379_1893 rfl (by decide) rfl ?_
  refine jT_adv 1 (pcN := 1895) (LN := [(6, (0, 0)), (5, (0, 0)), (4, (4, 3)), (3, (4, 2)), (2, (4, 1)), (1, (4, 0)), (0, (6, 0))]) (stN := [(0, x1), (4, 1)]) (hsN := jpA_4078) (c1 := 0) (s1 := 0) (c2 := 10) (s2 := 360) (by exact rfl) ?_ (by omega) (by omega)
  refine jT_xaload_n (v := (6, 0)) (pcN := 1896) jI_379_1895 rfl rfl rfl ?_
  refine jT_xiload (v := (0, 0)) (pcN := 1898) jI_379_1896 rfl rfl rfl ?_
  refine jT_xiconst (k := 2) (pcN := 1899) jI_379_1898 rfl ?_
  refine jT_xiadd (x := 0) (y := 2) (z := 2) (pcN := 1900) jI_379_1899 rfl (by decide) rfl ?_
  refine jT_adv 1 (pcN := 1901) (LN := [(6, (0, 0)), (5, (0, 0)), (4, (4, 3)), (3, (4, 2)), (2, (4, 1)), (1, (4, 0)), (0, (6, 0))]) (stN := [(0, x2), (0, x1), (4, 1)]) (hsN := jpA_4078) (c1 := 0) (s1 := 0) (c2 := 10) (s2 := 360) (by exact rfl) ?_ (by omega) (by omega)
  refine jT_eq (LN := [(6, (0, 0)), (5, (0, 0)), (4, (4, 3)), (3, (4, 2)), (2, (4, 1)), (1, (4, 0)), (0, (6, 0))]) (stN := [(0, 1), (0, x1), (4, 1)]) (hsN := [jzA_265, jzA_266, (101, [], [0]), jgh, (8, [(4, 30), (4, 31)], []), jgh, jgh, jgh, jgh, jgh, jgh, jgh, jgh, jgh, jzA_721, (100, [], jS0), jgh, jgh, jgh, jgh, (130, [], [37, 38, 39, 40, 41, 42]), (101, [], [0, 0, 0, 0, 0, 0]), jgh, jgh, jgh, jgh, jgh, jgh, jgh, jgh, jgh, jgh, jzA_324, jgh, jgh, jgh, jgh, (100, [], (jenc (jlg 0))), jgh, jgh, jgh, jgh, jgh, (4, [(4, 44), (1, 1)], []), (101, [], [0, 0, 0, 0, 0, 0])]) (rfl) (by simp only [List.cons.injEq, Prod.mk.injEq, and_true, true_and] <;> ((try unfold jw); (try unfold jwl); omega)) (rfl) ?_
  refine jT_xaload_n (v := (6, 0)) (pcN := 1902) jI_379_1901 rfl rfl rfl ?_
  refine jT_xiload (v := (0, 0)) (pcN := 1904) jI_379_1902 rfl rfl rfl ?_
  refine jT_xiconst (k := 3) (pcN := 1905) jI_379_1904 rfl ?_
  refine jT_xiadd (x := 0) (y := 3) (z := 3) (pcN := 1906) jI_379_1905 rfl (by decide) rfl ?_
  refine jT_adv 1 (pcN := 1907) (LN := [(6, (0, 0)), (5, (0, 0)), (4, (4, 3)), (3, (4, 2)), (2, (4, 1)), (1, (4, 0)), (0, (6, 0))]) (stN := [(0, x3), (0, 1), (0, x1), (4, 1)]) (hsN := jpA_4078) (c1 := 0) (s1 := 0) (c2 := 10) (s2 := 360) (by exact rfl) ?_ (by omega) (by omega)
  refine jT_eq (LN := [(6, (0, 0)), (5, (0, 0)), (4, (4, 3)), (3, (4, 2)), (2, (4, 1)), (1, (4, 0)), (0, (6, 0))]) (stN := [(0, 2), (0, 1), (0, x1), (4, 1)]) (hsN := [jzA_265, jzA_266, (101, [], [0]), jgh, (8, [(4, 30), (4, 31)], []), jgh, jgh, jgh, jgh, jgh, jgh, jgh, jgh, jgh, jzA_721, (100, [], jS0), jgh, jgh, jgh, jgh, (130, [], [37, 38, 39, 40, 41, 42]), (101, [], [0, 0, 0, 0, 0, 0]), jgh, jgh, jgh, jgh, jgh, jgh, jgh, jgh, jgh, jgh, jzA_324, jgh, jgh, jgh, jgh, (100, [], (jenc (jlg 0))), jgh, jgh, jgh, jgh, jgh, (4, [(4, 44), (1, 1)], []), (101, [], [0, 0, 0, 0, 0, 0])]) (rfl) (by simp only [List.cons.injEq, Prod.mk.injEq, and_true, true_and] <;> ((try unfold jw); (try unfold jwl); omega)) (rfl) ?_
  refine jT_fA [1, 15, 16, 17, 18, 19, 20, 21, 22, 23, 24, 25, 26, 27, 28, 29, 37, 38, 39, 40, 41, 42] 45 (y := 263) (pcN := 1910) (dC := 8) (bc1 := 10) (bc2 := 360) (c1 := 0) (c2 := 0) (as := [(4, 1), (0, x1), (0, 1), (0, 2)]) (asC := [(4, 0), (0, x1), (0, 1), (0, 2)]) (LN := [(6, (0, 0)), (5, (0, 0)), (4, (4, 3)), (3, (4, 2)), (2, (4, 1)), (1, (4, 0)), (0, (6, 0))]) (stN := []) (hsC := jpA_1695) (ex := jpA_3654) (v := (1, 0)) (st2 := [(1, 0)]) (hs2 := jpA_4079) (jA_263_1331 (d := 0) (by omega)) (by rfl) (by rfl) (by decide +kernel) (by rfl) (by rfl) (by omega) (by omega) (by omega) (by omega) rfl (by decide +kernel) ?_
  refine jT_xlstore (v := (1, 0)) (LN := [(7, (1, 0)), (6, (0, 0)), (5, (0, 0)), (4, (4, 3)), (3, (4, 2)), (2, (4, 1)), (1, (4, 0)), (0, (6, 0))]) (pcN := 1912) jI_379_1910 rfl rfl rfl rfl ?_
  refine jT_xaload_n (v := (4, 1)) (pcN := 1913) jI_379_1912 rfl rfl rfl ?_
  refine jT_fR [1, 15, 16, 17, 18, 19, 20, 21, 22, 23, 24, 25, 26, 27, 28, 29] 55 (y := 186) (pcN := 1916) (dC := 0) (bc1 := 0) (bc2 := 0) (c1 := 0) (c2 := 0) (as := [(4, 1)]) (asC := [(4, 0)]) (LN := [(7, (1, 0)), (6, (0, 0)), (5, (0, 0)), (4, (4, 3)), (3, (4, 2)), (2, (4, 1)), (1, (4, 0)), (0, (6, 0))]) (stN := []) (hsC := jpA_22) (v := (0, 0)) (st2 := [(0, 0)]) (jA_186_726 (d := 0)) (by rfl) (by rfl) (by decide +kernel) (by rfl) (by rfl) (by omega) (by omega) (by omega) (by omega) rfl ?_
  refine jT_xiload (v := (0, 0)) (pcN := 1918) jI_379_1916 rfl rfl rfl ?_
  refine jT_xicT (pcN := 1923) jI_379_1918 rfl (by decide +kernel) rfl ?_
  refine jT_xiload (v := (0, 0)) (pcN := 1925) jI_379_1923 rfl rfl rfl ?_
  refine jT_xifF (t := 1939) (pcN := 1928) jI_379_1925 rfl (by decide +kernel) rfl rfl ?_
  refine jT_xaload_n (v := (4, 2)) (pcN := 1929) jI_379_1928 rfl rfl rfl ?_
  refine jT_xiconst (k := 0) (pcN := 1930) jI_379_1929 rfl ?_
  refine jT_lald (x := 0) (a := 2) (j := 0) (fs := []) (X := [0]) jI_379_1930 rfl rfl rfl rfl ?_
  refine jT_eq (LN := [(7, (1, 0)), (6, (0, 0)), (5, (0, 0)), (4, (4, 3)), (3, (4, 2)), (2, (4, 1)), (1, (4, 0)), (0, (6, 0))]) (stN := [(1, 0)]) (hsN := jpA_4079) rfl rfl rfl ?_
  refine jT_xlload (v := (1, 0)) (pcN := 1933) jI_379_1931 rfl rfl rfl ?_
  refine jT_lcmp (a := 0) (b := 0) (z := 0) (by rfl) (by rfl) (by decide +kernel) (by decide +kernel) (by decide) ?_
  refine jT_xifT (pcN := 1939) jI_379_1934 rfl (by decide +kernel) rfl ?_
  refine jT_xgoto (pcN := 3740) jI_379_1939 rfl ?_
  refine jT_xiinc (x := 0) (z := 5) (LN := [(5, (0, 5)), (7, (1, 0)), (6, (0, 0)), (4, (4, 3)), (3, (4, 2)), (2, (4, 1)), (1, (4, 0)), (0, (6, 0))]) (pcN := 3743) jI_379_3740 rfl rfl (by decide) rfl rfl ?_
  refine jT_xgoto (pcN := 28) jI_379_3743 rfl ?_
  refine jT_xiload (v := (0, 5)) (pcN := 30) jI_379_28 rfl rfl rfl ?_
  refine jT_xaload_n (v := (6, 0)) (pcN := 31) jI_379_30 rfl rfl rfl ?_
  refine jT_adv 1 (pcN := 32) (LN := [(5, (0, 5)), (7, (1, 0)), (6, (0, 0)), (4, (4, 3)), (3, (4, 2)), (2, (4, 1)), (1, (4, 0)), (0, (6, 0))]) (stN := [(0, 5), (0, 5)]) (hsN := jpA_4079) (c1 := 0) (s1 := 0) (c2 := 0) (s2 := 0) (by exact rfl) ?_ (by omega) (by omega)
  refine jT_xiconst (k := 5) (pcN := 33) jI_379_32 rfl ?_
  refine jT_xisub (x := 5) (y := 5) (z := 0) (pcN := 34) jI_379_33 rfl (by decide) rfl ?_
  refine jT_xicT (pcN := 3746) jI_379_34 rfl (by decide +kernel) rfl ?_
  refine jT_xiconst (k := 1) (pcN := 3747) jI_379_3746 rfl ?_
  exact jT_ret rfl (by decide) (by show 45 ≤ 55; decide) (by omega) (by omega) ⟨rfl, rfl⟩
set_option maxRecDepth 100000 in
theorem jL_22_9 {d : Nat} {x0 x1 x2 x3 x4 : Int} (h_x0 : (-2147483648) ≤ x0 ∧ x0 ≤ 2147483647) (h_x1 : 0 ≤ x1 ∧ x1 ≤ 7) (h_x2 : 2 ≤ x2 ∧ x2 ≤ 2) (h_x3 : 0 ≤ x3 ∧ x3 ≤ 0) (h_x4 : (-2147483648) ≤ x4 ∧ x4 ≤ 2147483647) : jT [x0, x1, x2, x3, x4] (d + 8) 379 45 1863 [(5, (0, 0)), (4, (4, 3)), (3, (4, 2)), (2, (4, 1)), (1, (4, 0)), (0, (6, 0))] [] jpA_4078 6 186 (fun k v hsN => k = 0 ∧ v = (0, 1)) := by
  refine jT_xaload_n (v := (4, 0)) (pcN := 1864) jI_379_1863 rfl rfl rfl ?_
  refine jT_xaload_n (v := (6, 0)) (pcN := 1865) jI_379_1864 rfl rfl rfl ?_
  refine jT_xiload (v := (0, 0)) (pcN := 1867) jI_379_1865 rfl rfl rfl ?_
  refine jT_xiconst (k := 1) (pcN := 1868) jI_379_1867 rfl ?_
  refine jT_xiadd (x := 0) (y := 1) (z := 1) (pcN := 1869) jI_379_1868 rfl (by decide) rfl ?_
  refine jT_adv 1 (pcN := 1870) (LN := [(5, (0, 0)), (4, (4, 3)), (3, (4, 2)), (2, (4, 1)), (1, (4, 0)), (0, (6, 0))]) (stN := [(0, x1), (4, 0)]) (hsN := jpA_4078) (c1 := 0) (s1 := 0) (c2 := 6) (s2 := 186) (by exact rfl) ?_ (by omega) (by omega)
  refine jT_xaload_n (v := (6, 0)) (pcN := 1871) jI_379_1870 rfl rfl rfl ?_
  refine jT_xiload (v := (0, 0)) (pcN := 1873) jI_379_1871 rfl rfl rfl ?_
  refine jT_xiconst (k := 2) (pcN := 1874) jI_379_1873 rfl ?_
  refine jT_xiadd (x := 0) (y := 2) (z := 2) (pcN := 1875) jI_379_1874 rfl (by decide) rfl ?_
  refine jT_adv 1 (pcN := 1876) (LN := [(5, (0, 0)), (4, (4, 3)), (3, (4, 2)), (2, (4, 1)), (1, (4, 0)), (0, (6, 0))]) (stN := [(0, x2), (0, x1), (4, 0)]) (hsN := jpA_4078) (c1 := 0) (s1 := 0) (c2 := 6) (s2 := 186) (by exact rfl) ?_ (by omega) (by omega)
  refine jT_eq (LN := [(5, (0, 0)), (4, (4, 3)), (3, (4, 2)), (2, (4, 1)), (1, (4, 0)), (0, (6, 0))]) (stN := [(0, 2), (0, x1), (4, 0)]) (hsN := [jzA_265, jzA_266, (101, [], [0]), jgh, (8, [(4, 30), (4, 31)], []), jgh, jgh, jgh, jgh, jgh, jgh, jgh, jgh, jgh, jzA_721, (100, [], jS0), jgh, jgh, jgh, jgh, (130, [], [37, 38, 39, 40, 41, 42]), (101, [], [0, 0, 0, 0, 0, 0]), jgh, jgh, jgh, jgh, jgh, jgh, jgh, jgh, jgh, jgh, jzA_324, jgh, jgh, jgh, jgh, (100, [], (jenc (jlg 0))), jgh, jgh, jgh, jgh, jgh, (4, [(4, 44), (1, 1)], []), (101, [], [0, 0, 0, 0, 0, 0])]) (rfl) (by simp only [List.cons.injEq, Prod.mk.injEq, and_true, true_and] <;> ((try unfold jw); (try unfold jwl); omega)) (rfl) ?_
  refine jT_xaload_n (v := (6, 0)) (pcN := 1877) jI_379_1876 rfl rfl rfl ?_
  refine jT_xiload (v := (0, 0)) (pcN := 1879) jI_379_1877 rfl rfl rfl ?_
  refine jT_xiconst (k := 3) (pcN := 1880) jI_379_1879 rfl ?_
  refine jT_xiadd (x := 0) (y := 3) (z := 3) (pcN := 1881) jI_379_1880 rfl (by decide) rfl ?_
  refine jT_adv 1 (pcN := 1882) (LN := [(5, (0, 0)), (4, (4, 3)), (3, (4, 2)), (2, (4, 1)), (1, (4, 0)), (0, (6, 0))]) (stN := [(0, x3), (0, 2), (0, x1), (4, 0)]) (hsN := jpA_4078) (c1 := 0) (s1 := 0) (c2 := 6) (s2 := 186) (by exact rfl) ?_ (by omega) (by omega)
  refine jT_eq (LN := [(5, (0, 0)), (4, (4, 3)), (3, (4, 2)), (2, (4, 1)), (1, (4, 0)), (0, (6, 0))]) (stN := [(0, 0), (0, 2), (0, x1), (4, 0)]) (hsN := [jzA_265, jzA_266, (101, [], [0]), jgh, (8, [(4, 30), (4, 31)], []), jgh, jgh, jgh, jgh, jgh, jgh, jgh, jgh, jgh, jzA_721, (100, [], jS0), jgh, jgh, jgh, jgh, (130, [], [37, 38, 39, 40, 41, 42]), (101, [], [0, 0, 0, 0, 0, 0]), jgh, jgh, jgh, jgh, jgh, jgh, jgh, jgh, jgh, jgh, jzA_324, jgh, jgh, jgh, jgh, (100, [], (jenc (jlg 0))), jgh, jgh, jgh, jgh, jgh, (4, [(4, 44), (1, 1)], []), (101, [], [0, 0, 0, 0, 0, 0])]) (rfl) (by simp only [List.cons.injEq, Prod.mk.injEq, and_true, true_and] <;> ((try unfold jw); (try unfold jwl); omega)) (rfl) ?_
  refine jT_xaload_n (v := (4, 2)) (pcN := 1883) jI_379_1882 rfl rfl rfl ?_
  refine jT_fR [0, 2, 4, 5, 6, 7, 8, 9, 10, 11, 12, 13, 14, 30, 31, 32, 33, 34, 35, 36, 43, 44] 45 (y := 347) (pcN := 1886) (dC := 5) (bc1 := 0) (bc2 := 0) (c1 := 6) (c2 := 186) (as := [(4, 0), (0, x1), (0, 2), (0, 0), (4, 2)]) (asC := [(4, 0), (0, x1), (0, 2), (0, 0), (4, 1)]) (LN := [(5, (0, 0)), (4, (4, 3)), (3, (4, 2)), (2, (4, 1)), (1, (4, 0)), (0, (6, 0))]) (stN := []) (hsC := jpA_4038) (v := (0, 0)) (st2 := [(0, 0)]) (jA_347_1338 (d := 0) (by omega)) (by rfl) (by rfl) (by decide +kernel) (by rfl) (by rfl) (by omega) (by omega) (by omega) (by omega) rfl ?_
  refine jT_xistore (v := (0, 0)) (LN := [(6, (0, 0)), (5, (0, 0)), (4, (4, 3)), (3, (4, 2)), (2, (4, 1)), (1, (4, 0)), (0, (6, 0))]) (pcN := 1888) jI_379_1886 rfl rfl rfl rfl ?_
  refine jT_xaload_n (v := (4, 1)) (pcN := 1889) jI_379_1888 rfl rfl rfl ?_
  refine jT_xaload_n (v := (6, 0)) (pcN := 1890) jI_379_1889 rfl rfl rfl ?_
  refine jT_xiload (v := (0, 0)) (pcN := 1892) jI_379_1890 rfl rfl rfl ?_
  refine jT_xiconst (k := 1) (pcN := 1893) jI_379_1892 rfl ?_
  refine jT_xiadd (x := 0) (y := 1) (z := 1) (pcN := 1894) jI_379_1893 rfl (by decide) rfl ?_
  refine jT_adv 1 (pcN := 1895) (LN := [(6, (0, 0)), (5, (0, 0)), (4, (4, 3)), (3, (4, 2)), (2, (4, 1)), (1, (4, 0)), (0, (6, 0))]) (stN := [(0, x1), (4, 1)]) (hsN := jpA_4078) (c1 := 0) (s1 := 0) (c2 := 6) (s2 := 186) (by exact rfl) ?_ (by omega) (by omega)
  refine jT_xaload_n (v := (6, 0)) (pcN := 1896) jI_379_1895 rfl rfl rfl ?_
  refine jT_xiload (v := (0, 0)) (pcN := 1898) jI_379_1896 rfl rfl rfl ?_
  refine jT_xiconst (k := 2) (pcN := 1899) jI_379_1898 rfl ?_
  refine jT_xiadd (x := 0) (y := 2) (z := 2) (pcN := 1900) jI_379_1899 rfl (by decide) rfl ?_
  refine jT_adv 1 (pcN := 1901) (LN := [(6, (0, 0)), (5, (0, 0)), (4, (4, 3)), (3, (4, 2)), (2, (4, 1)), (1, (4, 0)), (0, (6, 0))]) (stN := [(0, x2), (0, x1), (4, 1)]) (hsN := jpA_4078) (c1 := 0) (s1 := 0) (c2 := 6) (s2 := 186) (by exact rfl) ?_ (by omega) (by omega)
  refine jT_eq (LN := [(6, (0, 0)), (5, (0, 0)), (4, (4, 3)), (3, (4, 2)), (2, (4, 1)), (1, (4, 0)), (0, (6, 0))]) (stN := [(0, 2), (0, x1), (4, 1)]) (hsN := [jzA_265, jzA_266, (101, [], [0]), jgh, (8, [(4, 30), (4, 31)], []), jgh, jgh, jgh, jgh, jgh, jgh, jgh, jgh, jgh, jzA_721, (100, [], jS0), jgh, jgh, jgh, jgh, (130, [], [37, 38, 39, 40, 41, 42]), (101, [], [0, 0, 0, 0, 0, 0]), jgh, jgh, jgh, jgh, jgh, jgh, jgh, jgh, jgh, jgh, jzA_324, jgh, jgh, jgh, jgh, (100, [], (jenc (jlg 0))), jgh, jgh, jgh, jgh, jgh, (4, [(4, 44), (1, 1)], []), (101, [], [0, 0, 0, 0, 0, 0])]) (rfl) (by simp only [List.cons.injEq, Prod.mk.injEq, and_true, true_and] <;> ((try unfold jw); (try unfold jwl); omega)) (rfl) ?_
  refine jT_xaload_n (v := (6, 0)) (pcN := 1902) jI_379_1901 rfl rfl rfl ?_
  refine jT_xiload (v := (0, 0)) (pcN := 1904) jI_379_1902 rfl rfl rfl ?_
  refine jT_xiconst (k := 3) (pcN := 1905) jI_379_1904 rfl ?_
  refine jT_xiadd (x := 0) (y := 3) (z := 3) (pcN := 1906) jI_379_1905 rfl (by decide) rfl ?_
  refine jT_adv 1 (pcN := 1907) (LN := [(6, (0, 0)), (5, (0, 0)), (4, (4, 3)), (3, (4, 2)), (2, (4, 1)), (1, (4, 0)), (0, (6, 0))]) (stN := [(0, x3), (0, 2), (0, x1), (4, 1)]) (hsN := jpA_4078) (c1 := 0) (s1 := 0) (c2 := 6) (s2 := 186) (by exact rfl) ?_ (by omega) (by omega)
  refine jT_eq (LN := [(6, (0, 0)), (5, (0, 0)), (4, (4, 3)), (3, (4, 2)), (2, (4, 1)), (1, (4, 0)), (0, (6, 0))]) (stN := [(0, 0), (0, 2), (0, x1), (4, 1)]) (hsN := [jzA_265, jzA_266, (101, [], [0]), jgh, (8, [(4, 30), (4, 31)], []), jgh, jgh, jgh, jgh, jgh, jgh, jgh, jgh, jgh, jzA_721, (100, [], jS0), jgh, jgh, jgh, jgh, (130, [], [37, 38, 39, 40, 41, 42]), (101, [], [0, 0, 0, 0, 0, 0]), jgh, jgh, jgh, jgh, jgh, jgh, jgh, jgh, jgh, jgh, jzA_324, jgh, jgh, jgh, jgh, (100, [], (jenc (jlg 0))), jgh, jgh, jgh, jgh, jgh, (4, [(4, 44), (1, 1)], []), (101, [], [0, 0, 0, 0, 0, 0])]) (rfl) (by simp only [List.cons.injEq, Prod.mk.injEq, and_true, true_and] <;> ((try unfold jw); (try unfold jwl); omega)) (rfl) ?_
  refine jT_fA [1, 15, 16, 17, 18, 19, 20, 21, 22, 23, 24, 25, 26, 27, 28, 29, 37, 38, 39, 40, 41, 42] 45 (y := 263) (pcN := 1910) (dC := 7) (bc1 := 6) (bc2 := 186) (c1 := 0) (c2 := 0) (as := [(4, 1), (0, x1), (0, 2), (0, 0)]) (asC := [(4, 0), (0, x1), (0, 2), (0, 0)]) (LN := [(6, (0, 0)), (5, (0, 0)), (4, (4, 3)), (3, (4, 2)), (2, (4, 1)), (1, (4, 0)), (0, (6, 0))]) (stN := []) (hsC := jpA_1695) (ex := jpA_4341) (v := (1, 0)) (st2 := [(1, 0)]) (hs2 := jpA_4391) (jA_263_1343 (d := 0) (by omega)) (by rfl) (by rfl) (by decide +kernel) (by rfl) (by rfl) (by omega) (by omega) (by omega) (by omega) rfl (by decide +kernel) ?_
  refine jT_xlstore (v := (1, 0)) (LN := [(7, (1, 0)), (6, (0, 0)), (5, (0, 0)), (4, (4, 3)), (3, (4, 2)), (2, (4, 1)), (1, (4, 0)), (0, (6, 0))]) (pcN := 1912) jI_379_1910 rfl rfl rfl rfl ?_
  refine jT_xaload_n (v := (4, 1)) (pcN := 1913) jI_379_1912 rfl rfl rfl ?_
  refine jT_fR [1, 15, 16, 17, 18, 19, 20, 21, 22, 23, 24, 25, 26, 27, 28, 29] 51 (y := 186) (pcN := 1916) (dC := 0) (bc1 := 0) (bc2 := 0) (c1 := 0) (c2 := 0) (as := [(4, 1)]) (asC := [(4, 0)]) (LN := [(7, (1, 0)), (6, (0, 0)), (5, (0, 0)), (4, (4, 3)), (3, (4, 2)), (2, (4, 1)), (1, (4, 0)), (0, (6, 0))]) (stN := []) (hsC := jpA_22) (v := (0, 0)) (st2 := [(0, 0)]) (jA_186_726 (d := 0)) (by rfl) (by rfl) (by decide +kernel) (by rfl) (by rfl) (by omega) (by omega) (by omega) (by omega) rfl ?_
  refine jT_xiload (v := (0, 0)) (pcN := 1918) jI_379_1916 rfl rfl rfl ?_
  refine jT_xicT (pcN := 1923) jI_379_1918 rfl (by decide +kernel) rfl ?_
  refine jT_xiload (v := (0, 0)) (pcN := 1925) jI_379_1923 rfl rfl rfl ?_
  refine jT_xifF (t := 1939) (pcN := 1928) jI_379_1925 rfl (by decide +kernel) rfl rfl ?_
  refine jT_xaload_n (v := (4, 2)) (pcN := 1929) jI_379_1928 rfl rfl rfl ?_
  refine jT_xiconst (k := 0) (pcN := 1930) jI_379_1929 rfl ?_
  refine jT_lald (x := 0) (a := 2) (j := 0) (fs := []) (X := [0]) jI_379_1930 rfl rfl rfl rfl ?_
  refine jT_eq (LN := [(7, (1, 0)), (6, (0, 0)), (5, (0, 0)), (4, (4, 3)), (3, (4, 2)), (2, (4, 1)), (1, (4, 0)), (0, (6, 0))]) (stN := [(1, 0)]) (hsN := jpA_4391) rfl rfl rfl ?_
  refine jT_xlload (v := (1, 0)) (pcN := 1933) jI_379_1931 rfl rfl rfl ?_
  refine jT_lcmp (a := 0) (b := 0) (z := 0) (by rfl) (by rfl) (by decide +kernel) (by decide +kernel) (by decide) ?_
  refine jT_xifT (pcN := 1939) jI_379_1934 rfl (by decide +kernel) rfl ?_
  refine jT_xgoto (pcN := 3740) jI_379_1939 rfl ?_
  refine jT_xiinc (x := 0) (z := 5) (LN := [(5, (0, 5)), (7, (1, 0)), (6, (0, 0)), (4, (4, 3)), (3, (4, 2)), (2, (4, 1)), (1, (4, 0)), (0, (6, 0))]) (pcN := 3743) jI_379_3740 rfl rfl (by decide) rfl rfl ?_
  refine jT_xgoto (pcN := 28) jI_379_3743 rfl ?_
  refine jT_xiload (v := (0, 5)) (pcN := 30) jI_379_28 rfl rfl rfl ?_
  refine jT_xaload_n (v := (6, 0)) (pcN := 31) jI_379_30 rfl rfl rfl ?_
  refine jT_adv 1 (pcN := 32) (LN := [(5, (0, 5)), (7, (1, 0)), (6, (0, 0)), (4, (4, 3)), (3, (4, 2)), (2, (4, 1)), (1, (4, 0)), (0, (6, 0))]) (stN := [(0, 5), (0, 5)]) (hsN := jpA_4391) (c1 := 0) (s1 := 0) (c2 := 0) (s2 := 0) (by exact rfl) ?_ (by omega) (by omega)
  refine jT_xiconst (k := 5) (pcN := 33) jI_379_32 rfl ?_
  refine jT_xisub (x := 5) (y := 5) (z := 0) (pcN := 34) jI_379_33 rfl (by decide) rfl ?_
  refine jT_xicT (pcN := 3746) jI_379_34 rfl (by decide +kernel) rfl ?_
  refine jT_xiconst (k := 1) (pcN := 3747) jI_379_3746 rfl ?_
  exact jT_ret rfl (by decide) (by show 45 ≤ 51; decide) (by omega) (by omega) ⟨rfl, rfl⟩
set_option maxRecDepth 100000 in
theorem jL_22_10 {d : Nat} {x0 x1 x2 x3 x4 : Int} (h_x0 : (-2147483648) ≤ x0 ∧ x0 ≤ 2147483647) (h_x1 : 0 ≤ x1 ∧ x1 ≤ 7) (h_x2 : 2 ≤ x2 ∧ x2 ≤ 2) (h_x3 : 1 ≤ x3 ∧ x3 ≤ 1) (h_x4 : (-2147483648) ≤ x4 ∧ x4 ≤ 2147483647) : jT [x0, x1, x2, x3, x4] (d + 8) 379 45 1863 [(5, (0, 0)), (4, (4, 3)), (3, (4, 2)), (2, (4, 1)), (1, (4, 0)), (0, (6, 0))] [] jpA_4078 9 200 (fun k v hsN => k = 0 ∧ v = (0, 1)) := by
  refine jT_xaload_n (v := (4, 0)) (pcN := 1864) jI_379_1863 rfl rfl rfl ?_
  refine jT_xaload_n (v := (6, 0)) (pcN := 1865) jI_379_1864 rfl rfl rfl ?_
  refine jT_xiload (v := (0, 0)) (pcN := 1867) jI_379_1865 rfl rfl rfl ?_
  refine jT_xiconst (k := 1) (pcN := 1868) jI_379_1867 rfl ?_
  refine jT_xiadd (x := 0) (y := 1) (z := 1) (pcN := 1869) jI_379_1868 rfl (by decide) rfl ?_
  refine jT_adv 1 (pcN := 1870) (LN := [(5, (0, 0)), (4, (4, 3)), (3, (4, 2)), (2, (4, 1)), (1, (4, 0)), (0, (6, 0))]) (stN := [(0, x1), (4, 0)]) (hsN := jpA_4078) (c1 := 0) (s1 := 0) (c2 := 9) (s2 := 200) (by exact rfl) ?_ (by omega) (by omega)
  refine jT_xaload_n (v := (6, 0)) (pcN := 1871) jI_379_1870 rfl rfl rfl ?_
  refine jT_xiload (v := (0, 0)) (pcN := 1873) jI_379_1871 rfl rfl rfl ?_
  refine jT_xiconst (k := 2) (pcN := 1874) jI_379_1873 rfl ?_
  refine jT_xiadd (x := 0) (y := 2) (z := 2) (pcN := 1875) jI_379_1874 rfl (by decide) rfl ?_
  refine jT_adv 1 (pcN := 1876) (LN := [(5, (0, 0)), (4, (4, 3)), (3, (4, 2)), (2, (4, 1)), (1, (4, 0)), (0, (6, 0))]) (stN := [(0, x2), (0, x1), (4, 0)]) (hsN := jpA_4078) (c1 := 0) (s1 := 0) (c2 := 9) (s2 := 200) (by exact rfl) ?_ (by omega) (by omega)
  refine jT_eq (LN := [(5, (0, 0)), (4, (4, 3)), (3, (4, 2)), (2, (4, 1)), (1, (4, 0)), (0, (6, 0))]) (stN := [(0, 2), (0, x1), (4, 0)]) (hsN := [jzA_265, jzA_266, (101, [], [0]), jgh, (8, [(4, 30), (4, 31)], []), jgh, jgh, jgh, jgh, jgh, jgh, jgh, jgh, jgh, jzA_721, (100, [], jS0), jgh, jgh, jgh, jgh, (130, [], [37, 38, 39, 40, 41, 42]), (101, [], [0, 0, 0, 0, 0, 0]), jgh, jgh, jgh, jgh, jgh, jgh, jgh, jgh, jgh, jgh, jzA_324, jgh, jgh, jgh, jgh, (100, [], (jenc (jlg 0))), jgh, jgh, jgh, jgh, jgh, (4, [(4, 44), (1, 1)], []), (101, [], [0, 0, 0, 0, 0, 0])]) (rfl) (by simp only [List.cons.injEq, Prod.mk.injEq, and_true, true_and] <;> ((try unfold jw); (try unfold jwl); omega)) (rfl) ?_
  refine jT_xaload_n (v := (6, 0)) (pcN := 1877) jI_379_1876 rfl rfl rfl ?_
  refine jT_xiload (v := (0, 0)) (pcN := 1879) jI_379_1877 rfl rfl rfl ?_
  refine jT_xiconst (k := 3) (pcN := 1880) jI_379_1879 rfl ?_
  refine jT_xiadd (x := 0) (y := 3) (z := 3) (pcN := 1881) jI_379_1880 rfl (by decide) rfl ?_
  refine jT_adv 1 (pcN := 1882) (LN := [(5, (0, 0)), (4, (4, 3)), (3, (4, 2)), (2, (4, 1)), (1, (4, 0)), (0, (6, 0))]) (stN := [(0, x3), (0, 2), (0, x1), (4, 0)]) (hsN := jpA_4078) (c1 := 0) (s1 := 0) (c2 := 9) (s2 := 200) (by exact rfl) ?_ (by omega) (by omega)
  refine jT_eq (LN := [(5, (0, 0)), (4, (4, 3)), (3, (4, 2)), (2, (4, 1)), (1, (4, 0)), (0, (6, 0))]) (stN := [(0, 1), (0, 2), (0, x1), (4, 0)]) (hsN := [jzA_265, jzA_266, (101, [], [0]), jgh, (8, [(4, 30), (4, 31)], []), jgh, jgh, jgh, jgh, jgh, jgh, jgh, jgh, jgh, jzA_721, (100, [], jS0), jgh, jgh, jgh, jgh, (130, [], [37, 38, 39, 40, 41, 42]), (101, [], [0, 0, 0, 0, 0, 0]), jgh, jgh, jgh, jgh, jgh, jgh, jgh, jgh, jgh, jgh, jzA_324, jgh, jgh, jgh, jgh, (100, [], (jenc (jlg 0))), jgh, jgh, jgh, jgh, jgh, (4, [(4, 44), (1, 1)], []), (101, [], [0, 0, 0, 0, 0, 0])]) (rfl) (by simp only [List.cons.injEq, Prod.mk.injEq, and_true, true_and] <;> ((try unfold jw); (try unfold jwl); omega)) (rfl) ?_
  refine jT_xaload_n (v := (4, 2)) (pcN := 1883) jI_379_1882 rfl rfl rfl ?_
  refine jT_fA [0, 2, 4, 5, 6, 7, 8, 9, 10, 11, 12, 13, 14, 30, 31, 32, 33, 34, 35, 36, 43, 44] 45 (y := 347) (pcN := 1886) (dC := 5) (bc1 := 2) (bc2 := 8) (c1 := 7) (c2 := 192) (as := [(4, 0), (0, x1), (0, 2), (0, 1), (4, 2)]) (asC := [(4, 0), (0, x1), (0, 2), (0, 1), (4, 1)]) (LN := [(5, (0, 0)), (4, (4, 3)), (3, (4, 2)), (2, (4, 1)), (1, (4, 0)), (0, (6, 0))]) (stN := []) (hsC := jpA_4038) (ex := [(101, [], [0, 0, 0, 0, 0, 0]), (4, [(4, 22), (1, 1)], [])]) (v := (0, 0)) (st2 := [(0, 0)]) (hs2 := jpA_4397) (jA_347_1346 (d := 0) (by omega)) (by rfl) (by rfl) (by decide +kernel) (by rfl) (by rfl) (by omega) (by omega) (by omega) (by omega) rfl (by decide +kernel) ?_
  refine jT_xistore (v := (0, 0)) (LN := [(6, (0, 0)), (5, (0, 0)), (4, (4, 3)), (3, (4, 2)), (2, (4, 1)), (1, (4, 0)), (0, (6, 0))]) (pcN := 1888) jI_379_1886 rfl rfl rfl rfl ?_
  refine jT_xaload_n (v := (4, 1)) (pcN := 1889) jI_379_1888 rfl rfl rfl ?_
  refine jT_xaload_n (v := (6, 0)) (pcN := 1890) jI_379_1889 rfl rfl rfl ?_
  refine jT_xiload (v := (0, 0)) (pcN := 1892) jI_379_1890 rfl rfl rfl ?_
  refine jT_xiconst (k := 1) (pcN := 1893) jI_379_1892 rfl ?_
  refine jT_xiadd (x := 0) (y := 1) (z := 1) (pcN := 1894) jI_379_1893 rfl (by decide) rfl ?_
  refine jT_adv 1 (pcN := 1895) (LN := [(6, (0, 0)), (5, (0, 0)), (4, (4, 3)), (3, (4, 2)), (2, (4, 1)), (1, (4, 0)), (0, (6, 0))]) (stN := [(0, x1), (4, 1)]) (hsN := jpA_4397) (c1 := 0) (s1 := 0) (c2 := 7) (s2 := 192) (by exact rfl) ?_ (by omega) (by omega)
  refine jT_xaload_n (v := (6, 0)) (pcN := 1896) jI_379_1895 rfl rfl rfl ?_
  refine jT_xiload (v := (0, 0)) (pcN := 1898) jI_379_1896 rfl rfl rfl ?_
  refine jT_xiconst (k := 2) (pcN := 1899) jI_379_1898 rfl ?_
  refine jT_xiadd (x := 0) (y := 2) (z := 2) (pcN := 1900) jI_379_1899 rfl (by decide) rfl ?_
  refine jT_adv 1 (pcN := 1901) (LN := [(6, (0, 0)), (5, (0, 0)), (4, (4, 3)), (3, (4, 2)), (2, (4, 1)), (1, (4, 0)), (0, (6, 0))]) (stN := [(0, x2), (0, x1), (4, 1)]) (hsN := jpA_4397) (c1 := 0) (s1 := 0) (c2 := 7) (s2 := 192) (by exact rfl) ?_ (by omega) (by omega)
  refine jT_eq (LN := [(6, (0, 0)), (5, (0, 0)), (4, (4, 3)), (3, (4, 2)), (2, (4, 1)), (1, (4, 0)), (0, (6, 0))]) (stN := [(0, 2), (0, x1), (4, 1)]) (hsN := [jzA_265, jzA_266, (101, [], [0]), jgh, (8, [(4, 30), (4, 31)], []), jgh, jgh, jgh, jgh, jgh, jgh, jgh, jgh, jgh, jzA_721, (100, [], jS0), jgh, jgh, jgh, jgh, (130, [], [37, 38, 39, 40, 41, 42]), (101, [], [0, 0, 0, 0, 0, 0]), jgh, jgh, jgh, jgh, jgh, jgh, jgh, jgh, jgh, jgh, jzA_324, jgh, jgh, jgh, jgh, (100, [], (jenc (jlg 0))), jgh, jgh, jgh, jgh, jgh, (4, [(4, 44), (1, 1)], []), (101, [], [0, 0, 0, 0, 0, 0]), (101, [], [0, 0, 0, 0, 0, 0]), (4, [(4, 45), (1, 1)], [])]) (rfl) (by simp only [List.cons.injEq, Prod.mk.injEq, and_true, true_and] <;> ((try unfold jw); (try unfold jwl); omega)) (rfl) ?_
  refine jT_xaload_n (v := (6, 0)) (pcN := 1902) jI_379_1901 rfl rfl rfl ?_
  refine jT_xiload (v := (0, 0)) (pcN := 1904) jI_379_1902 rfl rfl rfl ?_
  refine jT_xiconst (k := 3) (pcN := 1905) jI_379_1904 rfl ?_
  refine jT_xiadd (x := 0) (y := 3) (z := 3) (pcN := 1906) jI_379_1905 rfl (by decide) rfl ?_
  refine jT_adv 1 (pcN := 1907) (LN := [(6, (0, 0)), (5, (0, 0)), (4, (4, 3)), (3, (4, 2)), (2, (4, 1)), (1, (4, 0)), (0, (6, 0))]) (stN := [(0, x3), (0, 2), (0, x1), (4, 1)]) (hsN := jpA_4397) (c1 := 0) (s1 := 0) (c2 := 7) (s2 := 192) (by exact rfl) ?_ (by omega) (by omega)
  refine jT_eq (LN := [(6, (0, 0)), (5, (0, 0)), (4, (4, 3)), (3, (4, 2)), (2, (4, 1)), (1, (4, 0)), (0, (6, 0))]) (stN := [(0, 1), (0, 2), (0, x1), (4, 1)]) (hsN := [jzA_265, jzA_266, (101, [], [0]), jgh, (8, [(4, 30), (4, 31)], []), jgh, jgh, jgh, jgh, jgh, jgh, jgh, jgh, jgh, jzA_721, (100, [], jS0), jgh, jgh, jgh, jgh, (130, [], [37, 38, 39, 40, 41, 42]), (101, [], [0, 0, 0, 0, 0, 0]), jgh, jgh, jgh, jgh, jgh, jgh, jgh, jgh, jgh, jgh, jzA_324, jgh, jgh, jgh, jgh, (100, [], (jenc (jlg 0))), jgh, jgh, jgh, jgh, jgh, (4, [(4, 44), (1, 1)], []), (101, [], [0, 0, 0, 0, 0, 0]), (101, [], [0, 0, 0, 0, 0, 0]), (4, [(4, 45), (1, 1)], [])]) (rfl) (by simp only [List.cons.injEq, Prod.mk.injEq, and_true, true_and] <;> ((try unfold jw); (try unfold jwl); omega)) (rfl) ?_
  refine jT_fA [1, 15, 16, 17, 18, 19, 20, 21, 22, 23, 24, 25, 26, 27, 28, 29, 37, 38, 39, 40, 41, 42] 47 (y := 263) (pcN := 1910) (dC := 7) (bc1 := 7) (bc2 := 192) (c1 := 0) (c2 := 0) (as := [(4, 1), (0, x1), (0, 2), (0, 1)]) (asC := [(4, 0), (0, x1), (0, 2), (0, 1)]) (LN := [(6, (0, 0)), (5, (0, 0)), (4, (4, 3)), (3, (4, 2)), (2, (4, 1)), (1, (4, 0)), (0, (6, 0))]) (stN := []) (hsC := jpA_1695) (ex := jpA_4354) (v := (1, 0)) (st2 := [(1, 0)]) (hs2 := jpA_4398) (jA_263_1348 (d := 0) (by omega)) (by rfl) (by rfl) (by decide +kernel) (by rfl) (by rfl) (by omega) (by omega) (by omega) (by omega) rfl (by decide +kernel) ?_
  refine jT_xlstore (v := (1, 0)) (LN := [(7, (1, 0)), (6, (0, 0)), (5, (0, 0)), (4, (4, 3)), (3, (4, 2)), (2, (4, 1)), (1, (4, 0)), (0, (6, 0))]) (pcN := 1912) jI_379_1910 rfl rfl rfl rfl ?_
  refine jT_xaload_n (v := (4, 1)) (pcN := 1913) jI_379_1912 rfl rfl rfl ?_
  refine jT_fR [1, 15, 16, 17, 18, 19, 20, 21, 22, 23, 24, 25, 26, 27, 28, 29] 54 (y := 186) (pcN := 1916) (dC := 0) (bc1 := 0) (bc2 := 0) (c1 := 0) (c2 := 0) (as := [(4, 1)]) (asC := [(4, 0)]) (LN := [(7, (1, 0)), (6, (0, 0)), (5, (0, 0)), (4, (4, 3)), (3, (4, 2)), (2, (4, 1)), (1, (4, 0)), (0, (6, 0))]) (stN := []) (hsC := jpA_22) (v := (0, 0)) (st2 := [(0, 0)]) (jA_186_726 (d := 0)) (by rfl) (by rfl) (by decide +kernel) (by rfl) (by rfl) (by omega) (by omega) (by omega) (by omega) rfl ?_
  refine jT_xiload (v := (0, 0)) (pcN := 1918) jI_379_1916 rfl rfl rfl ?_
  refine jT_xicT (pcN := 1923) jI_379_1918 rfl (by decide +kernel) rfl ?_
  refine jT_xiload (v := (0, 0)) (pcN := 1925) jI_379_1923 rfl rfl rfl ?_
  refine jT_xifF (t := 1939) (pcN := 1928) jI_379_1925 rfl (by decide +kernel) rfl rfl ?_
  refine jT_xaload_n (v := (4, 2)) (pcN := 1929) jI_379_1928 rfl rfl rfl ?_
  refine jT_xiconst (k := 0) (pcN := 1930) jI_379_1929 rfl ?_
  refine jT_lald (x := 0) (a := 2) (j := 0) (fs := []) (X := [0]) jI_379_1930 rfl rfl rfl rfl ?_
  refine jT_eq (LN := [(7, (1, 0)), (6, (0, 0)), (5, (0, 0)), (4, (4, 3)), (3, (4, 2)), (2, (4, 1)), (1, (4, 0)), (0, (6, 0))]) (stN := [(1, 0)]) (hsN := jpA_4398) rfl rfl rfl ?_
  refine jT_xlload (v := (1, 0)) (pcN := 1933) jI_379_1931 rfl rfl rfl ?_
  refine jT_lcmp (a := 0) (b := 0) (z := 0) (by rfl) (by rfl) (by decide +kernel) (by decide +kernel) (by decide) ?_
  refine jT_xifT (pcN := 1939) jI_379_1934 rfl (by decide +kernel) rfl ?_
  refine jT_xgoto (pcN := 3740) jI_379_1939 rfl ?_
  refine jT_xiinc (x := 0) (z := 5) (LN := [(5, (0, 5)), (7, (1, 0)), (6, (0, 0)), (4, (4, 3)), (3, (4, 2)), (2, (4, 1)), (1, (4, 0)), (0, (6, 0))]) (pcN := 3743) jI_379_3740 rfl rfl (by decide) rfl rfl ?_
  refine jT_xgoto (pcN := 28) jI_379_3743 rfl ?_
  refine jT_xiload (v := (0, 5)) (pcN := 30) jI_379_28 rfl rfl rfl ?_
  refine jT_xaload_n (v := (6, 0)) (pcN := 31) jI_379_30 rfl rfl rfl ?_
  refine jT_adv 1 (pcN := 32) (LN := [(5, (0, 5)), (7, (1, 0)), (6, (0, 0)), (4, (4, 3)), (3, (4, 2)), (2, (4, 1)), (1, (4, 0)), (0, (6, 0))]) (stN := [(0, 5), (0, 5)]) (hsN := jpA_4398) (c1 := 0) (s1 := 0) (c2 := 0) (s2 := 0) (by exact rfl) ?_ (by omega) (by omega)
  refine jT_xiconst (k := 5) (pcN := 33) jI_379_32 rfl ?_
  refine jT_xisub (x := 5) (y := 5) (z := 0) (pcN := 34) jI_379_33 rfl (by decide) rfl ?_
  refine jT_xicT (pcN := 3746) jI_379_34 rfl (by decide +kernel) rfl ?_
  refine jT_xiconst (k := 1) (pcN := 3747) jI_379_3746 rfl ?_
  exact jT_ret rfl (by decide) (by show 45 ≤ 54; decide) (by omega) (by omega) ⟨rfl, rfl⟩
set_option maxRecDepth 100000 in
theorem jL_22_11 {d : Nat} {x0 x1 x2 x3 x4 : Int} (h_x0 : (-2147483648) ≤ x0 ∧ x0 ≤ 2147483647) (h_x1 : 0 ≤ x1 ∧ x1 ≤ 7) (h_x2 : 2 ≤ x2 ∧ x2 ≤ 2) (h_x3 : 2 ≤ x3 ∧ x3 ≤ 2) (h_x4 : (-2147483648) ≤ x4 ∧ x4 ≤ 2147483647) : jT [x0, x1, x2, x3, x4] (d + 9) 379 45 1863 [(5, (0, 0)), (4, (4, 3)), (3, (4, 2)), (2, (4, 1)), (1, (4, 0)), (0, (6, 0))] [] jpA_4078 10 360 (fun k v hsN => k = 0 ∧ v = (0, 1)) := by
  refine jT_xaload_n (v := (4, 0)) (pcN := 1864) jI_379_1863 rfl rfl rfl ?_
  refine jT_xaload_n (v := (6, 0)) (pcN := 1865) jI_379_1864 rfl rfl rfl ?_
  refine jT_xiload (v := (0, 0)) (pcN := 1867) jI_379_1865 rfl rfl rfl ?_
  refine jT_xiconst (k := 1) (pcN := 1868) jI_379_1867 rfl ?_
  refine jT_xiadd (x := 0) (y := 1) (z := 1) (pcN := 1869) jI_379_1868 rfl (by decide) rfl ?_
  refine jT_adv 1 (pcN := 1870) (LN := [(5, (0, 0)), (4, (4, 3)), (3, (4, 2)), (2, (4, 1)), (1, (4, 0)), (0, (6, 0))]) (stN := [(0, x1), (4, 0)]) (hsN := jpA_4078) (c1 := 0) (s1 := 0) (c2 := 10) (s2 := 360) (by exact rfl) ?_ (by omega) (by omega)
  refine jT_xaload_n (v := (6, 0)) (pcN := 1871) jI_379_1870 rfl rfl rfl ?_
  refine jT_xiload (v := (0, 0)) (pcN := 1873) jI_379_1871 rfl rfl rfl ?_
  refine jT_xiconst (k := 2) (pcN := 1874) jI_379_1873 rfl ?_
  refine jT_xiadd (x := 0) (y := 2) (z := 2) (pcN := 1875) jI_379_1874 rfl (by decide) rfl ?_
  refine jT_adv 1 (pcN := 1876) (LN := [(5, (0, 0)), (4, (4, 3)), (3, (4, 2)), (2, (4, 1)), (1, (4, 0)), (0, (6, 0))]) (stN := [(0, x2), (0, x1), (4, 0)]) (hsN := jpA_4078) (c1 := 0) (s1 := 0) (c2 := 10) (s2 := 360) (by exact rfl) ?_ (by omega) (by omega)
  refine jT_eq (LN := [(5, (0, 0)), (4, (4, 3)), (3, (4, 2)), (2, (4, 1)), (1, (4, 0)), (0, (6, 0))]) (stN := [(0, 2), (0, x1), (4, 0)]) (hsN := [jzA_265, jzA_266, (101, [], [0]), jgh, (8, [(4, 30), (4, 31)], []), jgh, jgh, jgh, jgh, jgh, jgh, jgh, jgh, jgh, jzA_721, (100, [], jS0), jgh, jgh, jgh, jgh, (130, [], [37, 38, 39, 40, 41, 42]), (101, [], [0, 0, 0, 0, 0, 0]), jgh, jgh, jgh, jgh, jgh, jgh, jgh, jgh, jgh, jgh, jzA_324, jgh, jgh, jgh, jgh, (100, [], (jenc (jlg 0))), jgh, jgh, jgh, jgh, jgh, (4, [(4, 44), (1, 1)], []), (101, [], [0, 0, 0, 0, 0, 0])]) (rfl) (by simp only [List.cons.injEq, Prod.mk.injEq, and_true, true_and] <;> ((try unfold jw); (try unfold jwl); omega)) (rfl) ?_
  refine jT_xaload_n (v := (6, 0)) (pcN := 1877) jI_379_1876 rfl rfl rfl ?_
  refine jT_xiload (v := (0, 0)) (pcN := 1879) jI_379_1877 rfl rfl rfl ?_
  refine jT_xiconst (k := 3) (pcN := 1880) jI_379_1879 rfl ?_
  refine jT_xiadd (x := 0) (y := 3) (z := 3) (pcN := 1881) jI_379_1880 rfl (by decide) rfl ?_
  refine jT_adv 1 (pcN := 1882) (LN := [(5, (0, 0)), (4, (4, 3)), (3, (4, 2)), (2, (4, 1)), (1, (4, 0)), (0, (6, 0))]) (stN := [(0, x3), (0, 2), (0, x1), (4, 0)]) (hsN := jpA_4078) (c1 := 0) (s1 := 0) (c2 := 10) (s2 := 360) (by exact rfl) ?_ (by omega) (by omega)
  refine jT_eq (LN := [(5, (0, 0)), (4, (4, 3)), (3, (4, 2)), (2, (4, 1)), (1, (4, 0)), (0, (6, 0))]) (stN := [(0, 2), (0, 2), (0, x1), (4, 0)]) (hsN := [jzA_265, jzA_266, (101, [], [0]), jgh, (8, [(4, 30), (4, 31)], []), jgh, jgh, jgh, jgh, jgh, jgh, jgh, jgh, jgh, jzA_721, (100, [], jS0), jgh, jgh, jgh, jgh, (130, [], [37, 38, 39, 40, 41, 42]), (101, [], [0, 0, 0, 0, 0, 0]), jgh, jgh, jgh, jgh, jgh, jgh, jgh, jgh, jgh, jgh, jzA_324, jgh, jgh, jgh, jgh, (100, [], (jenc (jlg 0))), jgh, jgh, jgh, jgh, jgh, (4, [(4, 44), (1, 1)], []), (101, [], [0, 0, 0, 0, 0, 0])]) (rfl) (by simp only [List.cons.injEq, Prod.mk.injEq, and_true, true_and] <;> ((try unfold jw); (try unfold jwl); omega)) (rfl) ?_
  refine jT_xaload_n (v := (4, 2)) (pcN := 1883) jI_379_1882 rfl rfl rfl ?_
  refine jT_fR [0, 2, 4, 5, 6, 7, 8, 9, 10, 11, 12, 13, 14, 30, 31, 32, 33, 34, 35, 36, 43, 44] 45 (y := 347) (pcN := 1886) (dC := 6) (bc1 := 0) (bc2 := 0) (c1 := 10) (c2 := 360) (as := [(4, 0), (0, x1), (0, 2), (0, 2), (4, 2)]) (asC := [(4, 0), (0, x1), (0, 2), (0, 2), (4, 1)]) (LN := [(5, (0, 0)), (4, (4, 3)), (3, (4, 2)), (2, (4, 1)), (1, (4, 0)), (0, (6, 0))]) (stN := []) (hsC := jpA_4038) (v := (0, 0)) (st2 := [(0, 0)]) (jA_347_1354 (d := 0) (by omega)) (by rfl) (by rfl) (by decide +kernel) (by rfl) (by rfl) (by omega) (by omega) (by omega) (by omega) rfl ?_
  refine jT_xistore (v := (0, 0)) (LN := [(6, (0, 0)), (5, (0, 0)), (4, (4, 3)), (3, (4, 2)), (2, (4, 1)), (1, (4, 0)), (0, (6, 0))]) (pcN := 1888) jI_379_1886 rfl rfl rfl rfl ?_
  refine jT_xaload_n (v := (4, 1)) (pcN := 1889) jI_379_1888 rfl rfl rfl ?_
  refine jT_xaload_n (v := (6, 0)) (pcN := 1890) jI_379_1889 rfl rfl rfl ?_
  refine jT_xiload (v := (0, 0)) (pcN := 1892) jI_379_1890 rfl rfl rfl ?_
  refine jT_xiconst (k := 1) (pcN := 1893) jI_379_1892 rfl ?_
  refine jT_xiadd (x := 0) (y := 1) (z := 1) (pcN := 1894) jI_379_1893 rfl (by decide) rfl ?_
  refine jT_adv 1 (pcN := 1895) (LN := [(6, (0, 0)), (5, (0, 0)), (4, (4, 3)), (3, (4, 2)), (2, (4, 1)), (1, (4, 0)), (0, (6, 0))]) (stN := [(0, x1), (4, 1)]) (hsN := jpA_4078) (c1 := 0) (s1 := 0) (c2 := 10) (s2 := 360) (by exact rfl) ?_ (by omega) (by omega)
  refine jT_xaload_n (v := (6, 0)) (pcN := 1896) jI_379_1895 rfl rfl rfl ?_
  refine jT_xiload (v := (0, 0)) (pcN := 1898) jI_379_1896 rfl rfl rfl ?_
  refine jT_xiconst (k := 2) (pcN := 1899) jI_379_1898 rfl ?_
  refine jT_xiadd (x := 0) (y := 2) (z := 2) (pcN := 1900) jI_379_1899 rfl (by decide) rfl ?_
  refine jT_adv 1 (pcN := 1901) (LN := [(6, (0, 0)), (5, (0, 0)), (4, (4, 3)), (3, (4, 2)), (2, (4, 1)), (1, (4, 0)), (0, (6, 0))]) (stN := [(0, x2), (0, x1), (4, 1)]) (hsN := jpA_4078) (c1 := 0) (s1 := 0) (c2 := 10) (s2 := 360) (by exact rfl) ?_ (by omega) (by omega)
  refine jT_eq (LN := [(6, (0, 0)), (5, (0, 0)), (4, (4, 3)), (3, (4, 2)), (2, (4, 1)), (1, (4, 0)), (0, (6, 0))]) (stN := [(0, 2), (0, x1), (4, 1)]) (hsN := [jzA_265, jzA_266, (101, [], [0]), jgh, (8, [(4, 30), (4, 31)], []), jgh, jgh, jgh, jgh, jgh, jgh, jgh, jgh, jgh, jzA_721, (100, [], jS0), jgh, jgh, jgh, jgh, (130, [], [37, 38, 39, 40, 41, 42]), (101, [], [0, 0, 0, 0, 0, 0]), jgh, jgh, jgh, jgh, jgh, jgh, jgh, jgh, jgh, jgh, jzA_324, jgh, jgh, jgh, jgh, (100, [], (jenc (jlg 0))), jgh, jgh, jgh, jgh, jgh, (4, [(4, 44), (1, 1)], []), (101, [], [0, 0, 0, 0, 0, 0])]) (rfl) (by simp only [List.cons.injEq, Prod.mk.injEq, and_true, true_and] <;> ((try unfold jw); (try unfold jwl); omega)) (rfl) ?_
  refine jT_xaload_n (v := (6, 0)) (pcN := 1902) jI_379_1901 rfl rfl rfl ?_
  refine jT_xiload (v := (0, 0)) (pcN := 1904) jI_379_1902 rfl rfl rfl ?_
  refine jT_xiconst (k := 3) (pcN := 1905) jI_379_1904 rfl ?_
  refine jT_xiadd (x := 0) (y := 3) (z := 3) (pcN := 1906) jI_379_1905 rfl (by decide) rfl ?_
  refine jT_adv 1 (pcN := 1907) (LN := [(6, (0, 0)), (5, (0, 0)), (4, (4, 3)), (3, (4, 2)), (2, (4, 1)), (1, (4, 0)), (0, (6, 0))]) (stN := [(0, x3), (0, 2), (0, x1), (4, 1)]) (hsN := jpA_4078) (c1 := 0) (s1 := 0) (c2 := 10) (s2 := 360) (by exact rfl) ?_ (by omega) (by omega)
  refine jT_eq (LN := [(6, (0, 0)), (5, (0, 0)), (4, (4, 3)), (3, (4, 2)), (2, (4, 1)), (1, (4, 0)), (0, (6, 0))]) (stN := [(0, 2), (0, 2), (0, x1), (4, 1)]) (hsN := [jzA_265, jzA_266, (101, [], [0]), jgh, (8, [(4, 30), (4, 31)], []), jgh, jgh, jgh, jgh, jgh, jgh, jgh, jgh, jgh, jzA_721, (100, [], jS0), jgh, jgh, jgh, jgh, (130, [], [37, 38, 39, 40, 41, 42]), (101, [], [0, 0, 0, 0, 0, 0]), jgh, jgh, jgh, jgh, jgh, jgh, jgh, jgh, jgh, jgh, jzA_324, jgh, jgh, jgh, jgh, (100, [], (jenc (jlg 0))), jgh, jgh, jgh, jgh, jgh, (4, [(4, 44), (1, 1)], []), (101, [], [0, 0, 0, 0, 0, 0])]) (rfl) (by simp only [List.cons.injEq, Prod.mk.injEq, and_true, true_and] <;> ((try unfold jw); (try unfold jwl); omega)) (rfl) ?_
  refine jT_fA [1, 15, 16, 17, 18, 19, 20, 21, 22, 23, 24, 25, 26, 27, 28, 29, 37, 38, 39, 40, 41, 42] 45 (y := 263) (pcN := 1910) (dC := 8) (bc1 := 10) (bc2 := 360) (c1 := 0) (c2 := 0) (as := [(4, 1), (0, x1), (0, 2), (0, 2)]) (asC := [(4, 0), (0, x1), (0, 2), (0, 2)]) (LN := [(6, (0, 0)), (5, (0, 0)), (4, (4, 3)), (3, (4, 2)), (2, (4, 1)), (1, (4, 0)), (0, (6, 0))]) (stN := []) (hsC := jpA_1695) (ex := jpA_3654) (v := (1, 0)) (st2 := [(1, 0)]) (hs2 := jpA_4079) (jA_263_1356 (d := 0) (by omega)) (by rfl) (by rfl) (by decide +kernel) (by rfl) (by rfl) (by omega) (by omega) (by omega) (by omega) rfl (by decide +kernel) ?_
  refine jT_xlstore (v := (1, 0)) (LN := [(7, (1, 0)), (6, (0, 0)), (5, (0, 0)), (4, (4, 3)), (3, (4, 2)), (2, (4, 1)), (1, (4, 0)), (0, (6, 0))]) (pcN := 1912) jI_379_1910 rfl rfl rfl rfl ?_
  refine jT_xaload_n (v := (4, 1)) (pcN := 1913) jI_379_1912 rfl rfl rfl ?_
  refine jT_fR [1, 15, 16, 17, 18, 19, 20, 21, 22, 23, 24, 25, 26, 27, 28, 29] 55 (y := 186) (pcN := 1916) (dC := 0) (bc1 := 0) (bc2 := 0) (c1 := 0) (c2 := 0) (as := [(4, 1)]) (asC := [(4, 0)]) (LN := [(7, (1, 0)), (6, (0, 0)), (5, (0, 0)), (4, (4, 3)), (3, (4, 2)), (2, (4, 1)), (1, (4, 0)), (0, (6, 0))]) (stN := []) (hsC := jpA_22) (v := (0, 0)) (st2 := [(0, 0)]) (jA_186_726 (d := 0)) (by rfl) (by rfl) (by decide +kernel) (by rfl) (by rfl) (by omega) (by omega) (by omega) (by omega) rfl ?_
  refine jT_xiload (v := (0, 0)) (pcN := 1918) jI_379_1916 rfl rfl rfl ?_
  refine jT_xicT (pcN := 1923) jI_379_1918 rfl (by decide +kernel) rfl ?_
  refine jT_xiload (v := (0, 0)) (pcN := 1925) jI_379_1923 rfl rfl rfl ?_
  refine jT_xifF (t := 1939) (pcN := 1928) jI_379_1925 rfl (by decide +kernel) rfl rfl ?_
  refine jT_xaload_n (v := (4, 2)) (pcN := 1929) jI_379_1928 rfl rfl rfl ?_
  refine jT_xiconst (k := 0) (pcN := 1930) jI_379_1929 rfl ?_
  refine jT_lald (x := 0) (a := 2) (j := 0) (fs := []) (X := [0]) jI_379_1930 rfl rfl rfl rfl ?_
  refine jT_eq (LN := [(7, (1, 0)), (6, (0, 0)), (5, (0, 0)), (4, (4, 3)), (3, (4, 2)), (2, (4, 1)), (1, (4, 0)), (0, (6, 0))]) (stN := [(1, 0)]) (hsN := jpA_4079) rfl rfl rfl ?_
  refine jT_xlload (v := (1, 0)) (pcN := 1933) jI_379_1931 rfl rfl rfl ?_
  refine jT_lcmp (a := 0) (b := 0) (z := 0) (by rfl) (by rfl) (by decide +kernel) (by decide +kernel) (by decide) ?_
  refine jT_xifT (pcN := 1939) jI_379_1934 rfl (by decide +kernel) rfl ?_
  refine jT_xgoto (pcN := 3740) jI_379_1939 rfl ?_
  refine jT_xiinc (x := 0) (z := 5) (LN := [(5, (0, 5)), (7, (1, 0)), (6, (0, 0)), (4, (4, 3)), (3, (4, 2)), (2, (4, 1)), (1, (4, 0)), (0, (6, 0))]) (pcN := 3743) jI_379_3740 rfl rfl (by decide) rfl rfl ?_
  refine jT_xgoto (pcN := 28) jI_379_3743 rfl ?_
  refine jT_xiload (v := (0, 5)) (pcN := 30) jI_379_28 rfl rfl rfl ?_
  refine jT_xaload_n (v := (6, 0)) (pcN := 31) jI_379_30 rfl rfl rfl ?_
  refine jT_adv 1 (pcN := 32) (LN := [(5, (0, 5)), (7, (1, 0)), (6, (0, 0)), (4, (4, 3)), (3, (4, 2)), (2, (4, 1)), (1, (4, 0)), (0, (6, 0))]) (stN := [(0, 5), (0, 5)]) (hsN := jpA_4079) (c1 := 0) (s1 := 0) (c2 := 0) (s2 := 0) (by exact rfl) ?_ (by omega) (by omega)
  refine jT_xiconst (k := 5) (pcN := 33) jI_379_32 rfl ?_
  refine jT_xisub (x := 5) (y := 5) (z := 0) (pcN := 34) jI_379_33 rfl (by decide) rfl ?_
  refine jT_xicT (pcN := 3746) jI_379_34 rfl (by decide +kernel) rfl ?_
  refine jT_xiconst (k := 1) (pcN := 3747) jI_379_3746 rfl ?_
  exact jT_ret rfl (by decide) (by show 45 ≤ 55; decide) (by omega) (by omega) ⟨rfl, rfl⟩
set_option maxRecDepth 100000 in
theorem jL_22_12 {d : Nat} {x0 x1 x2 x3 x4 : Int} (h_x0 : (-2147483648) ≤ x0 ∧ x0 ≤ 2147483647) (h_x1 : 0 ≤ x1 ∧ x1 ≤ 7) (h_x2 : 3 ≤ x2 ∧ x2 ≤ 3) (h_x3 : 0 ≤ x3 ∧ x3 ≤ 0) (h_x4 : (-2147483648) ≤ x4 ∧ x4 ≤ 2147483647) : jT [x0, x1, x2, x3, x4] (d + 8) 379 45 1863 [(5, (0, 0)), (4, (4, 3)), (3, (4, 2)), (2, (4, 1)), (1, (4, 0)), (0, (6, 0))] [] jpA_4078 6 186 (fun k v hsN => k = 0 ∧ v = (0, 1)) := by
  refine jT_xaload_n (v := (4, 0)) (pcN := 1864) jI_379_1863 rfl rfl rfl ?_
  refine jT_xaload_n (v := (6, 0)) (pcN := 1865) jI_379_1864 rfl rfl rfl ?_
  refine jT_xiload (v := (0, 0)) (pcN := 1867) jI_379_1865 rfl rfl rfl ?_
  refine jT_xiconst (k := 1) (pcN := 1868) jI_379_1867 rfl ?_
  refine jT_xiadd (x := 0) (y := 1) (z := 1) (pcN := 1869) jI_379_1868 rfl (by decide) rfl ?_
  refine jT_adv 1 (pcN := 1870) (LN := [(5, (0, 0)), (4, (4, 3)), (3, (4, 2)), (2, (4, 1)), (1, (4, 0)), (0, (6, 0))]) (stN := [(0, x1), (4, 0)]) (hsN := jpA_4078) (c1 := 0) (s1 := 0) (c2 := 6) (s2 := 186) (by exact rfl) ?_ (by omega) (by omega)
  refine jT_xaload_n (v := (6, 0)) (pcN := 1871) jI_379_1870 rfl rfl rfl ?_
  refine jT_xiload (v := (0, 0)) (pcN := 1873) jI_379_1871 rfl rfl rfl ?_
  refine jT_xiconst (k := 2) (pcN := 1874) jI_379_1873 rfl ?_
  refine jT_xiadd (x := 0) (y := 2) (z := 2) (pcN := 1875) jI_379_1874 rfl (by decide) rfl ?_
  refine jT_adv 1 (pcN := 1876) (LN := [(5, (0, 0)), (4, (4, 3)), (3, (4, 2)), (2, (4, 1)), (1, (4, 0)), (0, (6, 0))]) (stN := [(0, x2), (0, x1), (4, 0)]) (hsN := jpA_4078) (c1 := 0) (s1 := 0) (c2 := 6) (s2 := 186) (by exact rfl) ?_ (by omega) (by omega)
  refine jT_eq (LN := [(5, (0, 0)), (4, (4, 3)), (3, (4, 2)), (2, (4, 1)), (1, (4, 0)), (0, (6, 0))]) (stN := [(0, 3), (0, x1), (4, 0)]) (hsN := [jzA_265, jzA_266, (101, [], [0]), jgh, (8, [(4, 30), (4, 31)], []), jgh, jgh, jgh, jgh, jgh, jgh, jgh, jgh, jgh, jzA_721, (100, [], jS0), jgh, jgh, jgh, jgh, (130, [], [37, 38, 39, 40, 41, 42]), (101, [], [0, 0, 0, 0, 0, 0]), jgh, jgh, jgh, jgh, jgh, jgh, jgh, jgh, jgh, jgh, jzA_324, jgh, jgh, jgh, jgh, (100, [], (jenc (jlg 0))), jgh, jgh, jgh, jgh, jgh, (4, [(4, 44), (1, 1)], []), (101, [], [0, 0, 0, 0, 0, 0])]) (rfl) (by simp only [List.cons.injEq, Prod.mk.injEq, and_true, true_and] <;> ((try unfold jw); (try unfold jwl); omega)) (rfl) ?_
  refine jT_xaload_n (v := (6, 0)) (pcN := 1877) jI_379_1876 rfl rfl rfl ?_
  refine jT_xiload (v := (0, 0)) (pcN := 1879) jI_379_1877 rfl rfl rfl ?_
  refine jT_xiconst (k := 3) (pcN := 1880) jI_379_1879 rfl ?_
  refine jT_xiadd (x := 0) (y := 3) (z := 3) (pcN := 1881) jI_379_1880 rfl (by decide) rfl ?_
  refine jT_adv 1 (pcN := 1882) (LN := [(5, (0, 0)), (4, (4, 3)), (3, (4, 2)), (2, (4, 1)), (1, (4, 0)), (0, (6, 0))]) (stN := [(0, x3), (0, 3), (0, x1), (4, 0)]) (hsN := jpA_4078) (c1 := 0) (s1 := 0) (c2 := 6) (s2 := 186) (by exact rfl) ?_ (by omega) (by omega)
  refine jT_eq (LN := [(5, (0, 0)), (4, (4, 3)), (3, (4, 2)), (2, (4, 1)), (1, (4, 0)), (0, (6, 0))]) (stN := [(0, 0), (0, 3), (0, x1), (4, 0)]) (hsN := [jzA_265, jzA_266, (101, [], [0]), jgh, (8, [(4, 30), (4, 31)], []), jgh, jgh, jgh, jgh, jgh, jgh, jgh, jgh, jgh, jzA_721, (100, [], jS0), jgh, jgh, jgh, jgh, (130, [], [37, 38, 39, 40, 41, 42]), (101, [], [0, 0, 0, 0, 0, 0]), jgh, jgh, jgh, jgh, jgh, jgh, jgh, jgh, jgh, jgh, jzA_324, jgh, jgh, jgh, jgh, (100, [], (jenc (jlg 0))), jgh, jgh, jgh, jgh, jgh, (4, [(4, 44), (1, 1)], []), (101, [], [0, 0, 0, 0, 0, 0])]) (rfl) (by simp only [List.cons.injEq, Prod.mk.injEq, and_true, true_and] <;> ((try unfold jw); (try unfold jwl); omega)) (rfl) ?_
  refine jT_xaload_n (v := (4, 2)) (pcN := 1883) jI_379_1882 rfl rfl rfl ?_
  refine jT_fR [0, 2, 4, 5, 6, 7, 8, 9, 10, 11, 12, 13, 14, 30, 31, 32, 33, 34, 35, 36, 43, 44] 45 (y := 347) (pcN := 1886) (dC := 5) (bc1 := 0) (bc2 := 0) (c1 := 6) (c2 := 186) (as := [(4, 0), (0, x1), (0, 3), (0, 0), (4, 2)]) (asC := [(4, 0), (0, x1), (0, 3), (0, 0), (4, 1)]) (LN := [(5, (0, 0)), (4, (4, 3)), (3, (4, 2)), (2, (4, 1)), (1, (4, 0)), (0, (6, 0))]) (stN := []) (hsC := jpA_4038) (v := (0, 0)) (st2 := [(0, 0)]) (jA_347_1363 (d := 0) (by omega)) (by rfl) (by rfl) (by decide +kernel) (by rfl) (by rfl) (by omega) (by omega) (by omega) (by omega) rfl ?_
  refine jT_xistore (v := (0, 0)) (LN := [(6, (0, 0)), (5, (0, 0)), (4, (4, 3)), (3, (4, 2)), (2, (4, 1)), (1, (4, 0)), (0, (6, 0))]) (pcN := 1888) jI_379_1886 rfl rfl rfl rfl ?_
  refine jT_xaload_n (v := (4, 1)) (pcN := 1889) jI_379_1888 rfl rfl rfl ?_
  refine jT_xaload_n (v := (6, 0)) (pcN := 1890) jI_379_1889 rfl rfl rfl ?_
  refine jT_xiload (v := (0, 0)) (pcN := 1892) jI_379_1890 rfl rfl rfl ?_
  refine jT_xiconst (k := 1) (pcN := 1893) jI_379_1892 rfl ?_
  refine jT_xiadd (x := 0) (y := 1) (z := 1) (pcN := 1894) jI_379_1893 rfl (by decide) rfl ?_
  refine jT_adv 1 (pcN := 1895) (LN := [(6, (0, 0)), (5, (0, 0)), (4, (4, 3)), (3, (4, 2)), (2, (4, 1)), (1, (4, 0)), (0, (6, 0))]) (stN := [(0, x1), (4, 1)]) (hsN := jpA_4078) (c1 := 0) (s1 := 0) (c2 := 6) (s2 := 186) (by exact rfl) ?_ (by omega) (by omega)
  refine jT_xaload_n (v := (6, 0)) (pcN := 1896) jI_379_1895 rfl rfl rfl ?_
  refine jT_xiload (v := (0, 0)) (pcN := 1898) jI_379_1896 rfl rfl rfl ?_
  refine jT_xiconst (k := 2) (pcN := 1899) jI_379_1898 rfl ?_
  refine jT_xiadd (x := 0) (y := 2) (z := 2) (pcN := 1900) jI_379_1899 rfl (by decide) rfl ?_
  refine jT_adv 1 (pcN := 1901) (LN := [(6, (0, 0)), (5, (0, 0)), (4, (4, 3)), (3, (4, 2)), (2, (4, 1)), (1, (4, 0)), (0, (6, 0))]) (stN := [(0, x2), (0, x1), (4, 1)]) (hsN := jpA_4078) (c1 := 0) (s1 := 0) (c2 := 6) (s2 := 186) (by exact rfl) ?_ (by omega) (by omega)
  refine jT_eq (LN := [(6, (0, 0)), (5, (0, 0)), (4, (4, 3)), (3, (4, 2)), (2, (4, 1)), (1, (4, 0)), (0, (6, 0))]) (stN := [(0, 3), (0, x1), (4, 1)]) (hsN := [jzA_265, jzA_266, (101, [], [0]), jgh, (8, [(4, 30), (4, 31)], []), jgh, jgh, jgh, jgh, jgh, jgh, jgh, jgh, jgh, jzA_721, (100, [], jS0), jgh, jgh, jgh, jgh, (130, [], [37, 38, 39, 40, 41, 42]), (101, [], [0, 0, 0, 0, 0, 0]), jgh, jgh, jgh, jgh, jgh, jgh, jgh, jgh, jgh, jgh, jzA_324, jgh, jgh, jgh, jgh, (100, [], (jenc (jlg 0))), jgh, jgh, jgh, jgh, jgh, (4, [(4, 44), (1, 1)], []), (101, [], [0, 0, 0, 0, 0, 0])]) (rfl) (by simp only [List.cons.injEq, Prod.mk.injEq, and_true, true_and] <;> ((try unfold jw); (try unfold jwl); omega)) (rfl) ?_
  refine jT_xaload_n (v := (6, 0)) (pcN := 1902) jI_379_1901 rfl rfl rfl ?_
  refine jT_xiload (v := (0, 0)) (pcN := 1904) jI_379_1902 rfl rfl rfl ?_
  refine jT_xiconst (k := 3) (pcN := 1905) jI_379_1904 rfl ?_
  refine jT_xiadd (x := 0) (y := 3) (z := 3) (pcN := 1906) jI_379_1905 rfl (by decide) rfl ?_
  refine jT_adv 1 (pcN := 1907) (LN := [(6, (0, 0)), (5, (0, 0)), (4, (4, 3)), (3, (4, 2)), (2, (4, 1)), (1, (4, 0)), (0, (6, 0))]) (stN := [(0, x3), (0, 3), (0, x1), (4, 1)]) (hsN := jpA_4078) (c1 := 0) (s1 := 0) (c2 := 6) (s2 := 186) (by exact rfl) ?_ (by omega) (by omega)
  refine jT_eq (LN := [(6, (0, 0)), (5, (0, 0)), (4, (4, 3)), (3, (4, 2)), (2, (4, 1)), (1, (4, 0)), (0, (6, 0))]) (stN := [(0, 0), (0, 3), (0, x1), (4, 1)]) (hsN := [jzA_265, jzA_266, (101, [], [0]), jgh, (8, [(4, 30), (4, 31)], []), jgh, jgh, jgh, jgh, jgh, jgh, jgh, jgh, jgh, jzA_721, (100, [], jS0), jgh, jgh, jgh, jgh, (130, [], [37, 38, 39, 40, 41, 42]), (101, [], [0, 0, 0, 0, 0, 0]), jgh, jgh, jgh, jgh, jgh, jgh, jgh, jgh, jgh, jgh, jzA_324, jgh, jgh, jgh, jgh, (100, [], (jenc (jlg 0))), jgh, jgh, jgh, jgh, jgh, (4, [(4, 44), (1, 1)], []), (101, [], [0, 0, 0, 0, 0, 0])]) (rfl) (by simp only [List.cons.injEq, Prod.mk.injEq, and_true, true_and] <;> ((try unfold jw); (try unfold jwl); omega)) (rfl) ?_
  refine jT_fA [1, 15, 16, 17, 18, 19, 20, 21, 22, 23, 24, 25, 26, 27, 28, 29, 37, 38, 39, 40, 41, 42] 45 (y := 263) (pcN := 1910) (dC := 7) (bc1 := 6) (bc2 := 186) (c1 := 0) (c2 := 0) (as := [(4, 1), (0, x1), (0, 3), (0, 0)]) (asC := [(4, 0), (0, x1), (0, 3), (0, 0)]) (LN := [(6, (0, 0)), (5, (0, 0)), (4, (4, 3)), (3, (4, 2)), (2, (4, 1)), (1, (4, 0)), (0, (6, 0))]) (stN := []) (hsC := jpA_1695) (ex := jpA_4341) (v := (1, 0)) (st2 := [(1, 0)]) (hs2 := jpA_4391) (jA_263_1368 (d := 0) (by omega)) (by rfl) (by rfl) (by decide +kernel) (by rfl) (by rfl) (by omega) (by omega) (by omega) (by omega) rfl (by decide +kernel) ?_
  refine jT_xlstore (v := (1, 0)) (LN := [(7, (1, 0)), (6, (0, 0)), (5, (0, 0)), (4, (4, 3)), (3, (4, 2)), (2, (4, 1)), (1, (4, 0)), (0, (6, 0))]) (pcN := 1912) jI_379_1910 rfl rfl rfl rfl ?_
  refine jT_xaload_n (v := (4, 1)) (pcN := 1913) jI_379_1912 rfl rfl rfl ?_
  refine jT_fR [1, 15, 16, 17, 18, 19, 20, 21, 22, 23, 24, 25, 26, 27, 28, 29] 51 (y := 186) (pcN := 1916) (dC := 0) (bc1 := 0) (bc2 := 0) (c1 := 0) (c2 := 0) (as := [(4, 1)]) (asC := [(4, 0)]) (LN := [(7, (1, 0)), (6, (0, 0)), (5, (0, 0)), (4, (4, 3)), (3, (4, 2)), (2, (4, 1)), (1, (4, 0)), (0, (6, 0))]) (stN := []) (hsC := jpA_22) (v := (0, 0)) (st2 := [(0, 0)]) (jA_186_726 (d := 0)) (by rfl) (by rfl) (by decide +kernel) (by rfl) (by rfl) (by omega) (by omega) (by omega) (by omega) rfl ?_
  refine jT_xiload (v := (0, 0)) (pcN := 1918) jI_379_1916 rfl rfl rfl ?_
  refine jT_xicT (pcN := 1923) jI_379_1918 rfl (by decide +kernel) rfl ?_
  refine jT_xiload (v := (0, 0)) (pcN := 1925) jI_379_1923 rfl rfl rfl ?_
  refine jT_xifF (t := 1939) (pcN := 1928) jI_379_1925 rfl (by decide +kernel) rfl rfl ?_
  refine jT_xaload_n (v := (4, 2)) (pcN := 1929) jI_379_1928 rfl rfl rfl ?_
  refine jT_xiconst (k := 0) (pcN := 1930) jI_379_1929 rfl ?_
  refine jT_lald (x := 0) (a := 2) (j := 0) (fs := []) (X := [0]) jI_379_1930 rfl rfl rfl rfl ?_
  refine jT_eq (LN := [(7, (1, 0)), (6, (0, 0)), (5, (0, 0)), (4, (4, 3)), (3, (4, 2)), (2, (4, 1)), (1, (4, 0)), (0, (6, 0))]) (stN := [(1, 0)]) (hsN := jpA_4391) rfl rfl rfl ?_
  refine jT_xlload (v := (1, 0)) (pcN := 1933) jI_379_1931 rfl rfl rfl ?_
  refine jT_lcmp (a := 0) (b := 0) (z := 0) (by rfl) (by rfl) (by decide +kernel) (by decide +kernel) (by decide) ?_
  refine jT_xifT (pcN := 1939) jI_379_1934 rfl (by decide +kernel) rfl ?_
  refine jT_xgoto (pcN := 3740) jI_379_1939 rfl ?_
  refine jT_xiinc (x := 0) (z := 5) (LN := [(5, (0, 5)), (7, (1, 0)), (6, (0, 0)), (4, (4, 3)), (3, (4, 2)), (2, (4, 1)), (1, (4, 0)), (0, (6, 0))]) (pcN := 3743) jI_379_3740 rfl rfl (by decide) rfl rfl ?_
  refine jT_xgoto (pcN := 28) jI_379_3743 rfl ?_
  refine jT_xiload (v := (0, 5)) (pcN := 30) jI_379_28 rfl rfl rfl ?_
  refine jT_xaload_n (v := (6, 0)) (pcN := 31) jI_379_30 rfl rfl rfl ?_
  refine jT_adv 1 (pcN := 32) (LN := [(5, (0, 5)), (7, (1, 0)), (6, (0, 0)), (4, (4, 3)), (3, (4, 2)), (2, (4, 1)), (1, (4, 0)), (0, (6, 0))]) (stN := [(0, 5), (0, 5)]) (hsN := jpA_4391) (c1 := 0) (s1 := 0) (c2 := 0) (s2 := 0) (by exact rfl) ?_ (by omega) (by omega)
  refine jT_xiconst (k := 5) (pcN := 33) jI_379_32 rfl ?_
  refine jT_xisub (x := 5) (y := 5) (z := 0) (pcN := 34) jI_379_33 rfl (by decide) rfl ?_
  refine jT_xicT (pcN := 3746) jI_379_34 rfl (by decide +kernel) rfl ?_
  refine jT_xiconst (k := 1) (pcN := 3747) jI_379_3746 rfl ?_
  exact jT_ret rfl (by decide) (by show 45 ≤ 51; decide) (by omega) (by omega) ⟨rfl, rfl⟩
set_option maxRecDepth 100000 in
theorem jL_22_13 {d : Nat} {x0 x1 x2 x3 x4 : Int} (h_x0 : (-2147483648) ≤ x0 ∧ x0 ≤ 2147483647) (h_x1 : 0 ≤ x1 ∧ x1 ≤ 7) (h_x2 : 3 ≤ x2 ∧ x2 ≤ 3) (h_x3 : 1 ≤ x3 ∧ x3 ≤ 1) (h_x4 : (-2147483648) ≤ x4 ∧ x4 ≤ 2147483647) : jT [x0, x1, x2, x3, x4] (d + 8) 379 45 1863 [(5, (0, 0)), (4, (4, 3)), (3, (4, 2)), (2, (4, 1)), (1, (4, 0)), (0, (6, 0))] [] jpA_4078 9 200 (fun k v hsN => k = 0 ∧ v = (0, 1)) := by
  refine jT_xaload_n (v := (4, 0)) (pcN := 1864) jI_379_1863 rfl rfl rfl ?_
  refine jT_xaload_n (v := (6, 0)) (pcN := 1865) jI_379_1864 rfl rfl rfl ?_
  refine jT_xiload (v := (0, 0)) (pcN := 1867) jI_379_1865 rfl rfl rfl ?_
  refine jT_xiconst (k := 1) (pcN := 1868) jI_379_1867 rfl ?_
  refine jT_xiadd (x := 0) (y := 1) (z := 1) (pcN := 1869) jI_379_1868 rfl (by decide) rfl ?_
  refine jT_adv 1 (pcN := 1870) (LN := [(5, (0, 0)), (4, (4, 3)), (3, (4, 2)), (2, (4, 1)), (1, (4, 0)), (0, (6, 0))]) (stN := [(0, x1), (4, 0)]) (hsN := jpA_4078) (c1 := 0) (s1 := 0) (c2 := 9) (s2 := 200) (by exact rfl) ?_ (by omega) (by omega)
  refine jT_xaload_n (v := (6, 0)) (pcN := 1871) jI_379_1870 rfl rfl rfl ?_
  refine jT_xiload (v := (0, 0)) (pcN := 1873) jI_379_1871 rfl rfl rfl ?_
  refine jT_xiconst (k := 2) (pcN := 1874) jI_379_1873 rfl ?_
  refine jT_xiadd (x := 0) (y := 2) (z := 2) (pcN := 1875) jI_379_1874 rfl (by decide) rfl ?_
  refine jT_adv 1 (pcN := 1876) (LN := [(5, (0, 0)), (4, (4, 3)), (3, (4, 2)), (2, (4, 1)), (1, (4, 0)), (0, (6, 0))]) (stN := [(0, x2), (0, x1), (4, 0)]) (hsN := jpA_4078) (c1 := 0) (s1 := 0) (c2 := 9) (s2 := 200) (by exact rfl) ?_ (by omega) (by omega)
  refine jT_eq (LN := [(5, (0, 0)), (4, (4, 3)), (3, (4, 2)), (2, (4, 1)), (1, (4, 0)), (0, (6, 0))]) (stN := [(0, 3), (0, x1), (4, 0)]) (hsN := [jzA_265, jzA_266, (101, [], [0]), jgh, (8, [(4, 30), (4, 31)], []), jgh, jgh, jgh, jgh, jgh, jgh, jgh, jgh, jgh, jzA_721, (100, [], jS0), jgh, jgh, jgh, jgh, (130, [], [37, 38, 39, 40, 41, 42]), (101, [], [0, 0, 0, 0, 0, 0]), jgh, jgh, jgh, jgh, jgh, jgh, jgh, jgh, jgh, jgh, jzA_324, jgh, jgh, jgh, jgh, (100, [], (jenc (jlg 0))), jgh, jgh, jgh, jgh, jgh, (4, [(4, 44), (1, 1)], []), (101, [], [0, 0, 0, 0, 0, 0])]) (rfl) (by simp only [List.cons.injEq, Prod.mk.injEq, and_true, true_and] <;> ((try unfold jw); (try unfold jwl); omega)) (rfl) ?_
  refine jT_xaload_n (v := (6, 0)) (pcN := 1877) jI_379_1876 rfl rfl rfl ?_
  refine jT_xiload (v := (0, 0)) (pcN := 1879) jI_379_1877 rfl rfl rfl ?_
  refine jT_xiconst (k := 3) (pcN := 1880) jI_379_1879 rfl ?_
  refine jT_xiadd (x := 0) (y := 3) (z := 3) (pcN := 1881) jI_379_1880 rfl (by decide) rfl ?_
  refine jT_adv 1 (pcN := 1882) (LN := [(5, (0, 0)), (4, (4, 3)), (3, (4, 2)), (2, (4, 1)), (1, (4, 0)), (0, (6, 0))]) (stN := [(0, x3), (0, 3), (0, x1), (4, 0)]) (hsN := jpA_4078) (c1 := 0) (s1 := 0) (c2 := 9) (s2 := 200) (by exact rfl) ?_ (by omega) (by omega)
  refine jT_eq (LN := [(5, (0, 0)), (4, (4, 3)), (3, (4, 2)), (2, (4, 1)), (1, (4, 0)), (0, (6, 0))]) (stN := [(0, 1), (0, 3), (0, x1), (4, 0)]) (hsN := [jzA_265, jzA_266, (101, [], [0]), jgh, (8, [(4, 30), (4, 31)], []), jgh, jgh, jgh, jgh, jgh, jgh, jgh, jgh, jgh, jzA_721, (100, [], jS0), jgh, jgh, jgh, jgh, (130, [], [37, 38, 39, 40, 41, 42]), (101, [], [0, 0, 0, 0, 0, 0]), jgh, jgh, jgh, jgh, jgh, jgh, jgh, jgh, jgh, jgh, jzA_324, jgh, jgh, jgh, jgh, (100, [], (jenc (jlg 0))), jgh, jgh, jgh, jgh, jgh, (4, [(4, 44), (1, 1)], []), (101, [], [0, 0, 0, 0, 0, 0])]) (rfl) (by simp only [List.cons.injEq, Prod.mk.injEq, and_true, true_and] <;> ((try unfold jw); (try unfold jwl); omega)) (rfl) ?_
  refine jT_xaload_n (v := (4, 2)) (pcN := 1883) jI_379_1882 rfl rfl rfl ?_
  refine jT_fA [0, 2, 4, 5, 6, 7, 8, 9, 10, 11, 12, 13, 14, 30, 31, 32, 33, 34, 35, 36, 43, 44] 45 (y := 347) (pcN := 1886) (dC := 5) (bc1 := 2) (bc2 := 8) (c1 := 7) (c2 := 192) (as := [(4, 0), (0, x1), (0, 3), (0, 1), (4, 2)]) (asC := [(4, 0), (0, x1), (0, 3), (0, 1), (4, 1)]) (LN := [(5, (0, 0)), (4, (4, 3)), (3, (4, 2)), (2, (4, 1)), (1, (4, 0)), (0, (6, 0))]) (stN := []) (hsC := jpA_4038) (ex := [(101, [], [0, 0, 0, 0, 0, 0]), (4, [(4, 22), (1, 1)], [])]) (v := (0, 0)) (st2 := [(0, 0)]) (hs2 := jpA_4397) (jA_347_1371 (d := 0) (by omega)) (by rfl) (by rfl) (by decide +kernel) (by rfl) (by rfl) (by omega) (by omega) (by omega) (by omega) rfl (by decide +kernel) ?_
  refine jT_xistore (v := (0, 0)) (LN := [(6, (0, 0)), (5, (0, 0)), (4, (4, 3)), (3, (4, 2)), (2, (4, 1)), (1, (4, 0)), (0, (6, 0))]) (pcN := 1888) jI_379_1886 rfl rfl rfl rfl ?_
  refine jT_xaload_n (v := (4, 1)) (pcN := 1889) jI_379_1888 rfl rfl rfl ?_
  refine jT_xaload_n (v := (6, 0)) (pcN := 1890) jI_379_1889 rfl rfl rfl ?_
  refine jT_xiload (v := (0, 0)) (pcN := 1892) jI_379_1890 rfl rfl rfl ?_
  refine jT_xiconst (k := 1) (pcN := 1893) jI_379_1892 rfl ?_
  refine jT_xiadd (x := 0) (y := 1) (z := 1) (pcN := 1894) jI_379_1893 rfl (by decide) rfl ?_
  refine jT_adv 1 (pcN := 1895) (LN := [(6, (0, 0)), (5, (0, 0)), (4, (4, 3)), (3, (4, 2)), (2, (4, 1)), (1, (4, 0)), (0, (6, 0))]) (stN := [(0, x1), (4, 1)]) (hsN := jpA_4397) (c1 := 0) (s1 := 0) (c2 := 7) (s2 := 192) (by exact rfl) ?_ (by omega) (by omega)
  refine jT_xaload_n (v := (6, 0)) (pcN := 1896) jI_379_1895 rfl rfl rfl ?_
  refine jT_xiload (v := (0, 0)) (pcN := 1898) jI_379_1896 rfl rfl rfl ?_
  refine jT_xiconst (k := 2) (pcN := 1899) jI_379_1898 rfl ?_
  refine jT_xiadd (x := 0) (y := 2) (z := 2) (pcN := 1900) jI_379_1899 rfl (by decide) rfl ?_
  refine jT_adv 1 (pcN := 1901) (LN := [(6, (0, 0)), (5, (0, 0)), (4, (4, 3)), (3, (4, 2)), (2, (4, 1)), (1, (4, 0)), (0, (6, 0))]) (stN := [(0, x2), (0, x1), (4, 1)]) (hsN := jpA_4397) (c1 := 0) (s1 := 0) (c2 := 7) (s2 := 192) (by exact rfl) ?_ (by omega) (by omega)
  refine jT_eq (LN := [(6, (0, 0)), (5, (0, 0)), (4, (4, 3)), (3, (4, 2)), (2, (4, 1)), (1, (4, 0)), (0, (6, 0))]) (stN := [(0, 3), (0, x1), (4, 1)]) (hsN := [jzA_265, jzA_266, (101, [], [0]), jgh, (8, [(4, 30), (4, 31)], []), jgh, jgh, jgh, jgh, jgh, jgh, jgh, jgh, jgh, jzA_721, (100, [], jS0), jgh, jgh, jgh, jgh, (130, [], [37, 38, 39, 40, 41, 42]), (101, [], [0, 0, 0, 0, 0, 0]), jgh, jgh, jgh, jgh, jgh, jgh, jgh, jgh, jgh, jgh, jzA_324, jgh, jgh, jgh, jgh, (100, [], (jenc (jlg 0))), jgh, jgh, jgh, jgh, jgh, (4, [(4, 44), (1, 1)], []), (101, [], [0, 0, 0, 0, 0, 0]), (101, [], [0, 0, 0, 0, 0, 0]), (4, [(4, 45), (1, 1)], [])]) (rfl) (by simp only [List.cons.injEq, Prod.mk.injEq, and_true, true_and] <;> ((try unfold jw); (try unfold jwl); omega)) (rfl) ?_
  refine jT_xaload_n (v := (6, 0)) (pcN := 1902) jI_379_1901 rfl rfl rfl ?_
  refine jT_xiload (v := (0, 0)) (pcN := 1904) jI_379_1902 rfl rfl rfl ?_
  refine jT_xiconst (k := 3) (pcN := 1905) jI_379_1904 rfl ?_
  refine jT_xiadd (x := 0) (y := 3) (z := 3) (pcN := 1906) jI_379_1905 rfl (by decide) rfl ?_
  refine jT_adv 1 (pcN := 1907) (LN := [(6, (0, 0)), (5, (0, 0)), (4, (4, 3)), (3, (4, 2)), (2, (4, 1)), (1, (4, 0)), (0, (6, 0))]) (stN := [(0, x3), (0, 3), (0, x1), (4, 1)]) (hsN := jpA_4397) (c1 := 0) (s1 := 0) (c2 := 7) (s2 := 192) (by exact rfl) ?_ (by omega) (by omega)
  refine jT_eq (LN := [(6, (0, 0)), (5, (0, 0)), (4, (4, 3)), (3, (4, 2)), (2, (4, 1)), (1, (4, 0)), (0, (6, 0))]) (stN := [(0, 1), (0, 3), (0, x1), (4, 1)]) (hsN := [jzA_265, jzA_266, (101, [], [0]), jgh, (8, [(4, 30), (4, 31)], []), jgh, jgh, jgh, jgh, jgh, jgh, jgh, jgh, jgh, jzA_721, (100, [], jS0), jgh, jgh, jgh, jgh, (130, [], [37, 38, 39, 40, 41, 42]), (101, [], [0, 0, 0, 0, 0, 0]), jgh, jgh, jgh, jgh, jgh, jgh, jgh, jgh, jgh, jgh, jzA_324, jgh, jgh, jgh, jgh, (100, [], (jenc (jlg 0))), jgh, jgh, jgh, jgh, jgh, (4, [(4, 44), (1, 1)], []), (101, [], [0, 0, 0, 0, 0, 0]), (101, [], [0, 0, 0, 0, 0, 0]), (4, [(4, 45), (1, 1)], [])]) (rfl) (by simp only [List.cons.injEq, Prod.mk.injEq, and_true, true_and] <;> ((try unfold jw); (try unfold jwl); omega)) (rfl) ?_
  refine jT_fA [1, 15, 16, 17, 18, 19, 20, 21, 22, 23, 24, 25, 26, 27, 28, 29, 37, 38, 39, 40, 41, 42] 47 (y := 263) (pcN := 1910) (dC := 7) (bc1 := 7) (bc2 := 192) (c1 := 0) (c2 := 0) (as := [(4, 1), (0, x1), (0, 3), (0, 1)]) (asC := [(4, 0), (0, x1), (0, 3), (0, 1)]) (LN := [(6, (0, 0)), (5, (0, 0)), (4, (4, 3)), (3, (4, 2)), (2, (4, 1)), (1, (4, 0)), (0, (6, 0))]) (stN := []) (hsC := jpA_1695) (ex := jpA_4354) (v := (1, 0)) (st2 := [(1, 0)]) (hs2 := jpA_4398) (jA_263_1373 (d := 0) (by omega)) (by rfl) (by rfl) (by decide +kernel) (by rfl) (by rfl) (by omega) (by omega) (by omega) (by omega) rfl (by decide +kernel) ?_
  refine jT_xlstore (v := (1, 0)) (LN := [(7, (1, 0)), (6, (0, 0)), (5, (0, 0)), (4, (4, 3)), (3, (4, 2)), (2, (4, 1)), (1, (4, 0)), (0, (6, 0))]) (pcN := 1912) jI_379_1910 rfl rfl rfl rfl ?_
  refine jT_xaload_n (v := (4, 1)) (pcN := 1913) jI_379_1912 rfl rfl rfl ?_
  refine jT_fR [1, 15, 16, 17, 18, 19, 20, 21, 22, 23, 24, 25, 26, 27, 28, 29] 54 (y := 186) (pcN := 1916) (dC := 0) (bc1 := 0) (bc2 := 0) (c1 := 0) (c2 := 0) (as := [(4, 1)]) (asC := [(4, 0)]) (LN := [(7, (1, 0)), (6, (0, 0)), (5, (0, 0)), (4, (4, 3)), (3, (4, 2)), (2, (4, 1)), (1, (4, 0)), (0, (6, 0))]) (stN := []) (hsC := jpA_22) (v := (0, 0)) (st2 := [(0, 0)]) (jA_186_726 (d := 0)) (by rfl) (by rfl) (by decide +kernel) (by rfl) (by rfl) (by omega) (by omega) (by omega) (by omega) rfl ?_
  refine jT_xiload (v := (0, 0)) (pcN := 1918) jI_379_1916 rfl rfl rfl ?_
  refine jT_xicT (pcN := 1923) jI_379_1918 rfl (by decide +kernel) rfl ?_
  refine jT_xiload (v := (0, 0)) (pcN := 1925) jI_379_1923 rfl rfl rfl ?_
  refine jT_xifF (t := 1939) (pcN := 1928) jI_379_1925 rfl (by decide +kernel) rfl rfl ?_
  refine jT_xaload_n (v := (4, 2)) (pcN := 1929) jI_379_1928 rfl rfl rfl ?_
  refine jT_xiconst (k := 0) (pcN := 1930) jI_379_1929 rfl ?_
  refine jT_lald (x := 0) (a := 2) (j := 0) (fs := []) (X := [0]) jI_379_1930 rfl rfl rfl rfl ?_
  refine jT_eq (LN := [(7, (1, 0)), (6, (0, 0)), (5, (0, 0)), (4, (4, 3)), (3, (4, 2)), (2, (4, 1)), (1, (4, 0)), (0, (6, 0))]) (stN := [(1, 0)]) (hsN := jpA_4398) rfl rfl rfl ?_
  refine jT_xlload (v := (1, 0)) (pcN := 1933) jI_379_1931 rfl rfl rfl ?_
  refine jT_lcmp (a := 0) (b := 0) (z := 0) (by rfl) (by rfl) (by decide +kernel) (by decide +kernel) (by decide) ?_
  refine jT_xifT (pcN := 1939) jI_379_1934 rfl (by decide +kernel) rfl ?_
  refine jT_xgoto (pcN := 3740) jI_379_1939 rfl ?_
  refine jT_xiinc (x := 0) (z := 5) (LN := [(5, (0, 5)), (7, (1, 0)), (6, (0, 0)), (4, (4, 3)), (3, (4, 2)), (2, (4, 1)), (1, (4, 0)), (0, (6, 0))]) (pcN := 3743) jI_379_3740 rfl rfl (by decide) rfl rfl ?_
  refine jT_xgoto (pcN := 28) jI_379_3743 rfl ?_
  refine jT_xiload (v := (0, 5)) (pcN := 30) jI_379_28 rfl rfl rfl ?_
  refine jT_xaload_n (v := (6, 0)) (pcN := 31) jI_379_30 rfl rfl rfl ?_
  refine jT_adv 1 (pcN := 32) (LN := [(5, (0, 5)), (7, (1, 0)), (6, (0, 0)), (4, (4, 3)), (3, (4, 2)), (2, (4, 1)), (1, (4, 0)), (0, (6, 0))]) (stN := [(0, 5), (0, 5)]) (hsN := jpA_4398) (c1 := 0) (s1 := 0) (c2 := 0) (s2 := 0) (by exact rfl) ?_ (by omega) (by omega)
  refine jT_xiconst (k := 5) (pcN := 33) jI_379_32 rfl ?_
  refine jT_xisub (x := 5) (y := 5) (z := 0) (pcN := 34) jI_379_33 rfl (by decide) rfl ?_
  refine jT_xicT (pcN := 3746) jI_379_34 rfl (by decide +kernel) rfl ?_
  refine jT_xiconst (k := 1) (pcN := 3747) jI_379_3746 rfl ?_
  exact jT_ret rfl (by decide) (by show 45 ≤ 54; decide) (by omega) (by omega) ⟨rfl, rfl⟩
set_option maxRecDepth 100000 in
theorem jL_22_14 {d : Nat} {x0 x1 x2 x3 x4 : Int} (h_x0 : (-2147483648) ≤ x0 ∧ x0 ≤ 2147483647) (h_x1 : 0 ≤ x1 ∧ x1 ≤ 7) (h_x2 : 3 ≤ x2 ∧ x2 ≤ 3) (h_x3 : 2 ≤ x3 ∧ x3 ≤ 2) (h_x4 : (-2147483648) ≤ x4 ∧ x4 ≤ 2147483647) : jT [x0, x1, x2, x3, x4] (d + 9) 379 45 1863 [(5, (0, 0)), (4, (4, 3)), (3, (4, 2)), (2, (4, 1)), (1, (4, 0)), (0, (6, 0))] [] jpA_4078 10 360 (fun k v hsN => k = 0 ∧ v = (0, 1)) := by
  refine jT_xaload_n (v := (4, 0)) (pcN := 1864) jI_379_1863 rfl rfl rfl ?_
  refine jT_xaload_n (v := (6, 0)) (pcN := 1865) jI_379_1864 rfl rfl rfl ?_
  refine jT_xiload (v := (0, 0)) (pcN := 1867) jI_379_1865 rfl rfl rfl ?_
  refine jT_xiconst (k := 1) (pcN := 1868) jI_379_1867 rfl ?_
  refine jT_xiadd (x := 0) (y := 1) (z := 1) (pcN := 1869) jI_379_1868 rfl (by decide) rfl ?_
  refine jT_adv 1 (pcN := 1870) (LN := [(5, (0, 0)), (4, (4, 3)), (3, (4, 2)), (2, (4, 1)), (1, (4, 0)), (0, (6, 0))]) (stN := [(0, x1), (4, 0)]) (hsN := jpA_4078) (c1 := 0) (s1 := 0) (c2 := 10) (s2 := 360) (by exact rfl) ?_ (by omega) (by omega)
  refine jT_xaload_n (v := (6, 0)) (pcN := 1871) jI_379_1870 rfl rfl rfl ?_
  refine jT_xiload (v := (0, 0)) (pcN := 1873) jI_379_1871 rfl rfl rfl ?_
  refine jT_xiconst (k := 2) (pcN := 1874) jI_379_1873 rfl ?_
  refine jT_xiadd (x := 0) (y := 2) (z := 2) (pcN := 1875) jI_379_1874 rfl (by decide) rfl ?_
  refine jT_adv 1 (pcN := 1876) (LN := [(5, (0, 0)), (4, (4, 3)), (3, (4, 2)), (2, (4, 1)), (1, (4, 0)), (0, (6, 0))]) (stN := [(0, x2), (0, x1), (4, 0)]) (hsN := jpA_4078) (c1 := 0) (s1 := 0) (c2 := 10) (s2 := 360) (by exact rfl) ?_ (by omega) (by omega)
  refine jT_eq (LN := [(5, (0, 0)), (4, (4, 3)), (3, (4, 2)), (2, (4, 1)), (1, (4, 0)), (0, (6, 0))]) (stN := [(0, 3), (0, x1), (4, 0)]) (hsN := [jzA_265, jzA_266, (101, [], [0]), jgh, (8, [(4, 30), (4, 31)], []), jgh, jgh, jgh, jgh, jgh, jgh, jgh, jgh, jgh, jzA_721, (100, [], jS0), jgh, jgh, jgh, jgh, (130, [], [37, 38, 39, 40, 41, 42]), (101, [], [0, 0, 0, 0, 0, 0]), jgh, jgh, jgh, jgh, jgh, jgh, jgh, jgh, jgh, jgh, jzA_324, jgh, jgh, jgh, jgh, (100, [], (jenc (jlg 0))), jgh, jgh, jgh, jgh, jgh, (4, [(4, 44), (1, 1)], []), (101, [], [0, 0, 0, 0, 0, 0])]) (rfl) (by simp only [List.cons.injEq, Prod.mk.injEq, and_true, true_and] <;> ((try unfold jw); (try unfold jwl); omega)) (rfl) ?_
  refine jT_xaload_n (v := (6, 0)) (pcN := 1877) jI_379_1876 rfl rfl rfl ?_
  refine jT_xiload (v := (0, 0)) (pcN := 1879) jI_379_1877 rfl rfl rfl ?_
  refine jT_xiconst (k := 3) (pcN := 1880) jI_379_1879 rfl ?_
  refine jT_xiadd (x := 0) (y := 3) (z := 3) (pcN := 1881) jI_379_1880 rfl (by decide) rfl ?_
  refine jT_adv 1 (pcN := 1882) (LN := [(5, (0, 0)), (4, (4, 3)), (3, (4, 2)), (2, (4, 1)), (1, (4, 0)), (0, (6, 0))]) (stN := [(0, x3), (0, 3), (0, x1), (4, 0)]) (hsN := jpA_4078) (c1 := 0) (s1 := 0) (c2 := 10) (s2 := 360) (by exact rfl) ?_ (by omega) (by omega)
  refine jT_eq (LN := [(5, (0, 0)), (4, (4, 3)), (3, (4, 2)), (2, (4, 1)), (1, (4, 0)), (0, (6, 0))]) (stN := [(0, 2), (0, 3), (0, x1), (4, 0)]) (hsN := [jzA_265, jzA_266, (101, [], [0]), jgh, (8, [(4, 30), (4, 31)], []), jgh, jgh, jgh, jgh, jgh, jgh, jgh, jgh, jgh, jzA_721, (100, [], jS0), jgh, jgh, jgh, jgh, (130, [], [37, 38, 39, 40, 41, 42]), (101, [], [0, 0, 0, 0, 0, 0]), jgh, jgh, jgh, jgh, jgh, jgh, jgh, jgh, jgh, jgh, jzA_324, jgh, jgh, jgh, jgh, (100, [], (jenc (jlg 0))), jgh, jgh, jgh, jgh, jgh, (4, [(4, 44), (1, 1)], []), (101, [], [0, 0, 0, 0, 0, 0])]) (rfl) (by simp only [List.cons.injEq, Prod.mk.injEq, and_true, true_and] <;> ((try unfold jw); (try unfold jwl); omega)) (rfl) ?_
  refine jT_xaload_n (v := (4, 2)) (pcN := 1883) jI_379_1882 rfl rfl rfl ?_
  refine jT_fR [0, 2, 4, 5, 6, 7, 8, 9, 10, 11, 12, 13, 14, 30, 31, 32, 33, 34, 35, 36, 43, 44] 45 (y := 347) (pcN := 1886) (dC := 6) (bc1 := 0) (bc2 := 0) (c1 := 10) (c2 := 360) (as := [(4, 0), (0, x1), (0, 3), (0, 2), (4, 2)]) (asC := [(4, 0), (0, x1), (0, 3), (0, 2), (4, 1)]) (LN := [(5, (0, 0)), (4, (4, 3)), (3, (4, 2)), (2, (4, 1)), (1, (4, 0)), (0, (6, 0))]) (stN := []) (hsC := jpA_4038) (v := (0, 0)) (st2 := [(0, 0)]) (jA_347_1379 (d := 0) (by omega)) (by rfl) (by rfl) (by decide +kernel) (by rfl) (by rfl) (by omega) (by omega) (by omega) (by omega) rfl ?_
  refine jT_xistore (v := (0, 0)) (LN := [(6, (0, 0)), (5, (0, 0)), (4, (4, 3)), (3, (4, 2)), (2, (4, 1)), (1, (4, 0)), (0, (6, 0))]) (pcN := 1888) jI_379_1886 rfl rfl rfl rfl ?_
  refine jT_xaload_n (v := (4, 1)) (pcN := 1889) jI_379_1888 rfl rfl rfl ?_
  refine jT_xaload_n (v := (6, 0)) (pcN := 1890) jI_379_1889 rfl rfl rfl ?_
  refine jT_xiload (v := (0, 0)) (pcN := 1892) jI_379_1890 rfl rfl rfl ?_
  refine jT_xiconst (k := 1) (pcN := 1893) jI_379_1892 rfl ?_
  refine jT_xiadd (x := 0) (y := 1) (z := 1) (pcN := 1894) jI_379_1893 rfl (by decide) rfl ?_
  refine jT_adv 1 (pcN := 1895) (LN := [(6, (0, 0)), (5, (0, 0)), (4, (4, 3)), (3, (4, 2)), (2, (4, 1)), (1, (4, 0)), (0, (6, 0))]) (stN := [(0, x1), (4, 1)]) (hsN := jpA_4078) (c1 := 0) (s1 := 0) (c2 := 10) (s2 := 360) (by exact rfl) ?_ (by omega) (by omega)
  refine jT_xaload_n (v := (6, 0)) (pcN := 1896) jI_379_1895 rfl rfl rfl ?_
  refine jT_xiload (v := (0, 0)) (pcN := 1898) jI_379_1896 rfl rfl rfl ?_
  refine jT_xiconst (k := 2) (pcN := 1899) jI_379_1898 rfl ?_
  refine jT_xiadd (x := 0) (y := 2) (z := 2) (pcN := 1900) jI_379_1899 rfl (by decide) rfl ?_
  refine jT_adv 1 (pcN := 1901) (LN := [(6, (0, 0)), (5, (0, 0)), (4, (4, 3)), (3, (4, 2)), (2, (4, 1)), (1, (4, 0)), (0, (6, 0))]) (stN := [(0, x2), (0, x1), (4, 1)]) (hsN := jpA_4078) (c1 := 0) (s1 := 0) (c2 := 10) (s2 := 360) (by exact rfl) ?_ (by omega) (by omega)
  refine jT_eq (LN := [(6, (0, 0)), (5, (0, 0)), (4, (4, 3)), (3, (4, 2)), (2, (4, 1)), (1, (4, 0)), (0, (6, 0))]) (stN := [(0, 3), (0, x1), (4, 1)]) (hsN := [jzA_265, jzA_266, (101, [], [0]), jgh, (8, [(4, 30), (4, 31)], []), jgh, jgh, jgh, jgh, jgh, jgh, jgh, jgh, jgh, jzA_721, (100, [], jS0), jgh, jgh, jgh, jgh, (130, [], [37, 38, 39, 40, 41, 42]), (101, [], [0, 0, 0, 0, 0, 0]), jgh, jgh, jgh, jgh, jgh, jgh, jgh, jgh, jgh, jgh, jzA_324, jgh, jgh, jgh, jgh, (100, [], (jenc (jlg 0))), jgh, jgh, jgh, jgh, jgh, (4, [(4, 44), (1, 1)], []), (101, [], [0, 0, 0, 0, 0, 0])]) (rfl) (by simp only [List.cons.injEq, Prod.mk.injEq, and_true, true_and] <;> ((try unfold jw); (try unfold jwl); omega)) (rfl) ?_
  refine jT_xaload_n (v := (6, 0)) (pcN := 1902) jI_379_1901 rfl rfl rfl ?_
  refine jT_xiload (v := (0, 0)) (pcN := 1904) jI_379_1902 rfl rfl rfl ?_
  refine jT_xiconst (k := 3) (pcN := 1905) jI_379_1904 rfl ?_
  refine jT_xiadd (x := 0) (y := 3) (z := 3) (pcN := 1906) jI_379_1905 rfl (by decide) rfl ?_
  refine jT_adv 1 (pcN := 1907) (LN := [(6, (0, 0)), (5, (0, 0)), (4, (4, 3)), (3, (4, 2)), (2, (4, 1)), (1, (4, 0)), (0, (6, 0))]) (stN := [(0, x3), (0, 3), (0, x1), (4, 1)]) (hsN := jpA_4078) (c1 := 0) (s1 := 0) (c2 := 10) (s2 := 360) (by exact rfl) ?_ (by omega) (by omega)
  refine jT_eq (LN := [(6, (0, 0)), (5, (0, 0)), (4, (4, 3)), (3, (4, 2)), (2, (4, 1)), (1, (4, 0)), (0, (6, 0))]) (stN := [(0, 2), (0, 3), (0, x1), (4, 1)]) (hsN := [jzA_265, jzA_266, (101, [], [0]), jgh, (8, [(4, 30), (4, 31)], []), jgh, jgh, jgh, jgh, jgh, jgh, jgh, jgh, jgh, jzA_721, (100, [], jS0), jgh, jgh, jgh, jgh, (130, [], [37, 38, 39, 40, 41, 42]), (101, [], [0, 0, 0, 0, 0, 0]), jgh, jgh, jgh, jgh, jgh, jgh, jgh, jgh, jgh, jgh, jzA_324, jgh, jgh, jgh, jgh, (100, [], (jenc (jlg 0))), jgh, jgh, jgh, jgh, jgh, (4, [(4, 44), (1, 1)], []), (101, [], [0, 0, 0, 0, 0, 0])]) (rfl) (by simp only [List.cons.injEq, Prod.mk.injEq, and_true, true_and] <;> ((try unfold jw); (try unfold jwl); omega)) (rfl) ?_
  refine jT_fA [1, 15, 16, 17, 18, 19, 20, 21, 22, 23, 24, 25, 26, 27, 28, 29, 37, 38, 39, 40, 41, 42] 45 (y := 263) (pcN := 1910) (dC := 8) (bc1 := 10) (bc2 := 360) (c1 := 0) (c2 := 0) (as := [(4, 1), (0, x1), (0, 3), (0, 2)]) (asC := [(4, 0), (0, x1), (0, 3), (0, 2)]) (LN := [(6, (0, 0)), (5, (0, 0)), (4, (4, 3)), (3, (4, 2)), (2, (4, 1)), (1, (4, 0)), (0, (6, 0))]) (stN := []) (hsC := jpA_1695) (ex := jpA_3654) (v := (1, 0)) (st2 := [(1, 0)]) (hs2 := jpA_4079) (jA_263_1381 (d := 0) (by omega)) (by rfl) (by rfl) (by decide +kernel) (by rfl) (by rfl) (by omega) (by omega) (by omega) (by omega) rfl (by decide +kernel) ?_
  refine jT_xlstore (v := (1, 0)) (LN := [(7, (1, 0)), (6, (0, 0)), (5, (0, 0)), (4, (4, 3)), (3, (4, 2)), (2, (4, 1)), (1, (4, 0)), (0, (6, 0))]) (pcN := 1912) jI_379_1910 rfl rfl rfl rfl ?_
  refine jT_xaload_n (v := (4, 1)) (pcN := 1913) jI_379_1912 rfl rfl rfl ?_
  refine jT_fR [1, 15, 16, 17, 18, 19, 20, 21, 22, 23, 24, 25, 26, 27, 28, 29] 55 (y := 186) (pcN := 1916) (dC := 0) (bc1 := 0) (bc2 := 0) (c1 := 0) (c2 := 0) (as := [(4, 1)]) (asC := [(4, 0)]) (LN := [(7, (1, 0)), (6, (0, 0)), (5, (0, 0)), (4, (4, 3)), (3, (4, 2)), (2, (4, 1)), (1, (4, 0)), (0, (6, 0))]) (stN := []) (hsC := jpA_22) (v := (0, 0)) (st2 := [(0, 0)]) (jA_186_726 (d := 0)) (by rfl) (by rfl) (by decide +kernel) (by rfl) (by rfl) (by omega) (by omega) (by omega) (by omega) rfl ?_
  refine jT_xiload (v := (0, 0)) (pcN := 1918) jI_379_1916 rfl rfl rfl ?_
  refine jT_xicT (pcN := 1923) jI_379_1918 rfl (by decide +kernel) rfl ?_
  refine jT_xiload (v := (0, 0)) (pcN := 1925) jI_379_1923 rfl rfl rfl ?_
  refine jT_xifF (t := 1939) (pcN := 1928) jI_379_1925 rfl (by decide +kernel) rfl rfl ?_
  refine jT_xaload_n (v := (4, 2)) (pcN := 1929) jI_379_1928 rfl rfl rfl ?_
  refine jT_xiconst (k := 0) (pcN := 1930) jI_379_1929 rfl ?_
  refine jT_lald (x := 0) (a := 2) (j := 0) (fs := []) (X := [0]) jI_379_1930 rfl rfl rfl rfl ?_
  refine jT_eq (LN := [(7, (1, 0)), (6, (0, 0)), (5, (0, 0)), (4, (4, 3)), (3, (4, 2)), (2, (4, 1)), (1, (4, 0)), (0, (6, 0))]) (stN := [(1, 0)]) (hsN := jpA_4079) rfl rfl rfl ?_
  refine jT_xlload (v := (1, 0)) (pcN := 1933) jI_379_1931 rfl rfl rfl ?_
  refine jT_lcmp (a := 0) (b := 0) (z := 0) (by rfl) (by rfl) (by decide +kernel) (by decide +kernel) (by decide) ?_
  refine jT_xifT (pcN := 1939) jI_379_1934 rfl (by decide +kernel) rfl ?_
  refine jT_xgoto (pcN := 3740) jI_379_1939 rfl ?_
  refine jT_xiinc (x := 0) (z := 5) (LN := [(5, (0, 5)), (7, (1, 0)), (6, (0, 0)), (4, (4, 3)), (3, (4, 2)), (2, (4, 1)), (1, (4, 0)), (0, (6, 0))]) (pcN := 3743) jI_379_3740 rfl rfl (by decide) rfl rfl ?_
  refine jT_xgoto (pcN := 28) jI_379_3743 rfl ?_
  refine jT_xiload (v := (0, 5)) (pcN := 30) jI_379_28 rfl rfl rfl ?_
  refine jT_xaload_n (v := (6, 0)) (pcN := 31) jI_379_30 rfl rfl rfl ?_
  refine jT_adv 1 (pcN := 32) (LN := [(5, (0, 5)), (7, (1, 0)), (6, (0, 0)), (4, (4, 3)), (3, (4, 2)), (2, (4, 1)), (1, (4, 0)), (0, (6, 0))]) (stN := [(0, 5), (0, 5)]) (hsN := jpA_4079) (c1 := 0) (s1 := 0) (c2 := 0) (s2 := 0) (by exact rfl) ?_ (by omega) (by omega)
  refine jT_xiconst (k := 5) (pcN := 33) jI_379_32 rfl ?_
  refine jT_xisub (x := 5) (y := 5) (z := 0) (pcN := 34) jI_379_33 rfl (by decide) rfl ?_
  refine jT_xicT (pcN := 3746) jI_379_34 rfl (by decide +kernel) rfl ?_
  refine jT_xiconst (k := 1) (pcN := 3747) jI_379_3746 rfl ?_
  exact jT_ret rfl (by decide) (by show 45 ≤ 55; decide) (by omega) (by omega) ⟨rfl, rfl⟩
set_option maxRecDepth 100000 in
theorem jL_22_15 {d : Nat} {x0 x1 x2 x3 x4 : Int} (h_x0 : (-2147483648) ≤ x0 ∧ x0 ≤ 2147483647) (h_x1 : 0 ≤ x1 ∧ x1 ≤ 7) (h_x2 : 4 ≤ x2 ∧ x2 ≤ 4) (h_x3 : 0 ≤ x3 ∧ x3 ≤ 0) (h_x4 : (-2147483648) ≤ x4 ∧ x4 ≤ 2147483647) : jT [x0, x1, x2, x3, x4] (d + 8) 379 45 1863 [(5, (0, 0)), (4, (4, 3)), (3, (4, 2)), (2, (4, 1)), (1, (4, 0)), (0, (6, 0))] [] jpA_4078 6 186 (fun k v hsN => k = 0 ∧ v = (0, 1)) := by
  refine jT_xaload_n (v := (4, 0)) (pcN := 1864) jI_379_1863 rfl rfl rfl ?_
  refine jT_xaload_n (v := (6, 0)) (pcN := 1865) jI_379_1864 rfl rfl rfl ?_
  refine jT_xiload (v := (0, 0)) (pcN := 1867) jI_379_1865 rfl rfl rfl ?_
  refine jT_xiconst (k := 1) (pcN := 1868) jI_379_1867 rfl ?_
  refine jT_xiadd (x := 0) (y := 1) (z := 1) (pcN := 1869) jI_379_1868 rfl (by decide) rfl ?_
  refine jT_adv 1 (pcN := 1870) (LN := [(5, (0, 0)), (4, (4, 3)), (3, (4, 2)), (2, (4, 1)), (1, (4, 0)), (0, (6, 0))]) (stN := [(0, x1), (4, 0)]) (hsN := jpA_4078) (c1 := 0) (s1 := 0) (c2 := 6) (s2 := 186) (by exact rfl) ?_ (by omega) (by omega)
  refine jT_xaload_n (v := (6, 0)) (pcN := 1871) jI_379_1870 rfl rfl rfl ?_
  refine jT_xiload (v := (0, 0)) (pcN := 1873) jI_379_1871 rfl rfl rfl ?_
  refine jT_xiconst (k := 2) (pcN := 1874) jI_379_1873 rfl ?_
  refine jT_xiadd (x := 0) (y := 2) (z := 2) (pcN := 1875) jI_379_1874 rfl (by decide) rfl ?_
  refine jT_adv 1 (pcN := 1876) (LN := [(5, (0, 0)), (4, (4, 3)), (3, (4, 2)), (2, (4, 1)), (1, (4, 0)), (0, (6, 0))]) (stN := [(0, x2), (0, x1), (4, 0)]) (hsN := jpA_4078) (c1 := 0) (s1 := 0) (c2 := 6) (s2 := 186) (by exact rfl) ?_ (by omega) (by omega)
  refine jT_eq (LN := [(5, (0, 0)), (4, (4, 3)), (3, (4, 2)), (2, (4, 1)), (1, (4, 0)), (0, (6, 0))]) (stN := [(0, 4), (0, x1), (4, 0)]) (hsN := [jzA_265, jzA_266, (101, [], [0]), jgh, (8, [(4, 30), (4, 31)], []), jgh, jgh, jgh, jgh, jgh, jgh, jgh, jgh, jgh, jzA_721, (100, [], jS0), jgh, jgh, jgh, jgh, (130, [], [37, 38, 39, 40, 41, 42]), (101, [], [0, 0, 0, 0, 0, 0]), jgh, jgh, jgh, jgh, jgh, jgh, jgh, jgh, jgh, jgh, jzA_324, jgh, jgh, jgh, jgh, (100, [], (jenc (jlg 0))), jgh, jgh, jgh, jgh, jgh, (4, [(4, 44), (1, 1)], []), (101, [], [0, 0, 0, 0, 0, 0])]) (rfl) (by simp only [List.cons.injEq, Prod.mk.injEq, and_true, true_and] <;> ((try unfold jw); (try unfold jwl); omega)) (rfl) ?_
  refine jT_xaload_n (v := (6, 0)) (pcN := 1877) jI_379_1876 rfl rfl rfl ?_
  refine jT_xiload (v := (0, 0)) (pcN := 1879) jI_379_1877 rfl rfl rfl ?_
  refine jT_xiconst (k := 3) (pcN := 1880) jI_379_1879 rfl ?_
  refine jT_xiadd (x := 0) (y := 3) (z := 3) (pcN := 1881) jI_379_1880 rfl (by decide) rfl ?_
  refine jT_adv 1 (pcN := 1882) (LN := [(5, (0, 0)), (4, (4, 3)), (3, (4, 2)), (2, (4, 1)), (1, (4, 0)), (0, (6, 0))]) (stN := [(0, x3), (0, 4), (0, x1), (4, 0)]) (hsN := jpA_4078) (c1 := 0) (s1 := 0) (c2 := 6) (s2 := 186) (by exact rfl) ?_ (by omega) (by omega)
  refine jT_eq (LN := [(5, (0, 0)), (4, (4, 3)), (3, (4, 2)), (2, (4, 1)), (1, (4, 0)), (0, (6, 0))]) (stN := [(0, 0), (0, 4), (0, x1), (4, 0)]) (hsN := [jzA_265, jzA_266, (101, [], [0]), jgh, (8, [(4, 30), (4, 31)], []), jgh, jgh, jgh, jgh, jgh, jgh, jgh, jgh, jgh, jzA_721, (100, [], jS0), jgh, jgh, jgh, jgh, (130, [], [37, 38, 39, 40, 41, 42]), (101, [], [0, 0, 0, 0, 0, 0]), jgh, jgh, jgh, jgh, jgh, jgh, jgh, jgh, jgh, jgh, jzA_324, jgh, jgh, jgh, jgh, (100, [], (jenc (jlg 0))), jgh, jgh, jgh, jgh, jgh, (4, [(4, 44), (1, 1)], []), (101, [], [0, 0, 0, 0, 0, 0])]) (rfl) (by simp only [List.cons.injEq, Prod.mk.injEq, and_true, true_and] <;> ((try unfold jw); (try unfold jwl); omega)) (rfl) ?_
  refine jT_xaload_n (v := (4, 2)) (pcN := 1883) jI_379_1882 rfl rfl rfl ?_
  refine jT_fR [0, 2, 4, 5, 6, 7, 8, 9, 10, 11, 12, 13, 14, 30, 31, 32, 33, 34, 35, 36, 43, 44] 45 (y := 347) (pcN := 1886) (dC := 5) (bc1 := 0) (bc2 := 0) (c1 := 6) (c2 := 186) (as := [(4, 0), (0, x1), (0, 4), (0, 0), (4, 2)]) (asC := [(4, 0), (0, x1), (0, 4), (0, 0), (4, 1)]) (LN := [(5, (0, 0)), (4, (4, 3)), (3, (4, 2)), (2, (4, 1)), (1, (4, 0)), (0, (6, 0))]) (stN := []) (hsC := jpA_4038) (v := (0, 0)) (st2 := [(0, 0)]) (jA_347_1388 (d := 0) (by omega)) (by rfl) (by rfl) (by decide +kernel) (by rfl) (by rfl) (by omega) (by omega) (by omega) (by omega) rfl ?_
  refine jT_xistore (v := (0, 0)) (LN := [(6, (0, 0)), (5, (0, 0)), (4, (4, 3)), (3, (4, 2)), (2, (4, 1)), (1, (4, 0)), (0, (6, 0))]) (pcN := 1888) jI_379_1886 rfl rfl rfl rfl ?_
  refine jT_xaload_n (v := (4, 1)) (pcN := 1889) jI_379_1888 rfl rfl rfl ?_
  refine jT_xaload_n (v := (6, 0)) (pcN := 1890) jI_379_1889 rfl rfl rfl ?_
  refine jT_xiload (v := (0, 0)) (pcN := 1892) jI_379_1890 rfl rfl rfl ?_
  refine jT_xiconst (k := 1) (pcN := 1893) jI_379_1892 rfl ?_
  refine jT_xiadd (x := 0) (y := 1) (z := 1) (pcN := 1894) jI_379_1893 rfl (by decide) rfl ?_
  refine jT_adv 1 (pcN := 1895) (LN := [(6, (0, 0)), (5, (0, 0)), (4, (4, 3)), (3, (4, 2)), (2, (4, 1)), (1, (4, 0)), (0, (6, 0))]) (stN := [(0, x1), (4, 1)]) (hsN := jpA_4078) (c1 := 0) (s1 := 0) (c2 := 6) (s2 := 186) (by exact rfl) ?_ (by omega) (by omega)
  refine jT_xaload_n (v := (6, 0)) (pcN := 1896) jI_379_1895 rfl rfl rfl ?_
  refine jT_xiload (v := (0, 0)) (pcN := 1898) jI_379_1896 rfl rfl rfl ?_
  refine jT_xiconst (k := 2) (pcN := 1899) jI_379_1898 rfl ?_
  refine jT_xiadd (x := 0) (y := 2) (z := 2) (pcN := 1900) jI_379_1899 rfl (by decide) rfl ?_
  refine jT_adv 1 (pcN := 1901) (LN := [(6, (0, 0)), (5, (0, 0)), (4, (4, 3)), (3, (4, 2)), (2, (4, 1)), (1, (4, 0)), (0, (6, 0))]) (stN := [(0, x2), (0, x1), (4, 1)]) (hsN := jpA_4078) (c1 := 0) (s1 := 0) (c2 := 6) (s2 := 186) (by exact rfl) ?_ (by omega) (by omega)
  refine jT_eq (LN := [(6, (0, 0)), (5, (0, 0)), (4, (4, 3)), (3, (4, 2)), (2, (4, 1)), (1, (4, 0)), (0, (6, 0))]) (stN := [(0, 4), (0, x1), (4, 1)]) (hsN := [jzA_265, jzA_266, (101, [], [0]), jgh, (8, [(4, 30), (4, 31)], []), jgh, jgh, jgh, jgh, jgh, jgh, jgh, jgh, jgh, jzA_721, (100, [], jS0), jgh, jgh, jgh, jgh, (130, [], [37, 38, 39, 40, 41, 42]), (101, [], [0, 0, 0, 0, 0, 0]), jgh, jgh, jgh, jgh, jgh, jgh, jgh, jgh, jgh, jgh, jzA_324, jgh, jgh, jgh, jgh, (100, [], (jenc (jlg 0))), jgh, jgh, jgh, jgh, jgh, (4, [(4, 44), (1, 1)], []), (101, [], [0, 0, 0, 0, 0, 0])]) (rfl) (by simp only [List.cons.injEq, Prod.mk.injEq, and_true, true_and] <;> ((try unfold jw); (try unfold jwl); omega)) (rfl) ?_
  refine jT_xaload_n (v := (6, 0)) (pcN := 1902) jI_379_1901 rfl rfl rfl ?_
  refine jT_xiload (v := (0, 0)) (pcN := 1904) jI_379_1902 rfl rfl rfl ?_
  refine jT_xiconst (k := 3) (pcN := 1905) jI_379_1904 rfl ?_
  refine jT_xiadd (x := 0) (y := 3) (z := 3) (pcN := 1906) jI_379_1905 rfl (by decide) rfl ?_
  refine jT_adv 1 (pcN := 1907) (LN := [(6, (0, 0)), (5, (0, 0)), (4, (4, 3)), (3, (4, 2)), (2, (4, 1)), (1, (4, 0)), (0, (6, 0))]) (stN := [(0, x3), (0, 4), (0, x1), (4, 1)]) (hsN := jpA_4078) (c1 := 0) (s1 := 0) (c2 := 6) (s2 := 186) (by exact rfl) ?_ (by omega) (by omega)
  refine jT_eq (LN := [(6, (0, 0)), (5, (0, 0)), (4, (4, 3)), (3, (4, 2)), (2, (4, 1)), (1, (4, 0)), (0, (6, 0))]) (stN := [(0, 0), (0, 4), (0, x1), (4, 1)]) (hsN := [jzA_265, jzA_266, (101, [], [0]), jgh, (8, [(4, 30), (4, 31)], []), jgh, jgh, jgh, jgh, jgh, jgh, jgh, jgh, jgh, jzA_721, (100, [], jS0), jgh, jgh, jgh, jgh, (130, [], [37, 38, 39, 40, 41, 42]), (101, [], [0, 0, 0, 0, 0, 0]), jgh, jgh, jgh, jgh, jgh, jgh, jgh, jgh, jgh, jgh, jzA_324, jgh, jgh, jgh, jgh, (100, [], (jenc (jlg 0))), jgh, jgh, jgh, jgh, jgh, (4, [(4, 44), (1, 1)], []), (101, [], [0, 0, 0, 0, 0, 0])]) (rfl) (by simp only [List.cons.injEq, Prod.mk.injEq, and_true, true_and] <;> ((try unfold jw); (try unfold jwl); omega)) (rfl) ?_
  refine jT_fA [1, 15, 16, 17, 18, 19, 20, 21, 22, 23, 24, 25, 26, 27, 28, 29, 37, 38, 39, 40, 41, 42] 45 (y := 263) (pcN := 1910) (dC := 7) (bc1 := 6) (bc2 := 186) (c1 := 0) (c2 := 0) (as := [(4, 1), (0, x1), (0, 4), (0, 0)]) (asC := [(4, 0), (0, x1), (0, 4), (0, 0)]) (LN := [(6, (0, 0)), (5, (0, 0)), (4, (4, 3)), (3, (4, 2)), (2, (4, 1)), (1, (4, 0)), (0, (6, 0))]) (stN := []) (hsC := jpA_1695) (ex := jpA_4341) (v := (1, 0)) (st2 := [(1, 0)]) (hs2 := jpA_4391) (jA_263_1393 (d := 0) (by omega)) (by rfl) (by rfl) (by decide +kernel) (by rfl) (by rfl) (by omega) (by omega) (by omega) (by omega) rfl (by decide +kernel) ?_
  refine jT_xlstore (v := (1, 0)) (LN := [(7, (1, 0)), (6, (0, 0)), (5, (0, 0)), (4, (4, 3)), (3, (4, 2)), (2, (4, 1)), (1, (4, 0)), (0, (6, 0))]) (pcN := 1912) jI_379_1910 rfl rfl rfl rfl ?_
  refine jT_xaload_n (v := (4, 1)) (pcN := 1913) jI_379_1912 rfl rfl rfl ?_
  refine jT_fR [1, 15, 16, 17, 18, 19, 20, 21, 22, 23, 24, 25, 26, 27, 28, 29] 51 (y := 186) (pcN := 1916) (dC := 0) (bc1 := 0) (bc2 := 0) (c1 := 0) (c2 := 0) (as := [(4, 1)]) (asC := [(4, 0)]) (LN := [(7, (1, 0)), (6, (0, 0)), (5, (0, 0)), (4, (4, 3)), (3, (4, 2)), (2, (4, 1)), (1, (4, 0)), (0, (6, 0))]) (stN := []) (hsC := jpA_22) (v := (0, 0)) (st2 := [(0, 0)]) (jA_186_726 (d := 0)) (by rfl) (by rfl) (by decide +kernel) (by rfl) (by rfl) (by omega) (by omega) (by omega) (by omega) rfl ?_
  refine jT_xiload (v := (0, 0)) (pcN := 1918) jI_379_1916 rfl rfl rfl ?_
  refine jT_xicT (pcN := 1923) jI_379_1918 rfl (by decide +kernel) rfl ?_
  refine jT_xiload (v := (0, 0)) (pcN := 1925) jI_379_1923 rfl rfl rfl ?_
  refine jT_xifF (t := 1939) (pcN := 1928) jI_379_1925 rfl (by decide +kernel) rfl rfl ?_
  refine jT_xaload_n (v := (4, 2)) (pcN := 1929) jI_379_1928 rfl rfl rfl ?_
  refine jT_xiconst (k := 0) (pcN := 1930) jI_379_1929 rfl ?_
  refine jT_lald (x := 0) (a := 2) (j := 0) (fs := []) (X := [0]) jI_379_1930 rfl rfl rfl rfl ?_
  refine jT_eq (LN := [(7, (1, 0)), (6, (0, 0)), (5, (0, 0)), (4, (4, 3)), (3, (4, 2)), (2, (4, 1)), (1, (4, 0)), (0, (6, 0))]) (stN := [(1, 0)]) (hsN := jpA_4391) rfl rfl rfl ?_
  refine jT_xlload (v := (1, 0)) (pcN := 1933) jI_379_1931 rfl rfl rfl ?_
  refine jT_lcmp (a := 0) (b := 0) (z := 0) (by rfl) (by rfl) (by decide +kernel) (by decide +kernel) (by decide) ?_
  refine jT_xifT (pcN := 1939) jI_379_1934 rfl (by decide +kernel) rfl ?_
  refine jT_xgoto (pcN := 3740) jI_379_1939 rfl ?_
  refine jT_xiinc (x := 0) (z := 5) (LN := [(5, (0, 5)), (7, (1, 0)), (6, (0, 0)), (4, (4, 3)), (3, (4, 2)), (2, (4, 1)), (1, (4, 0)), (0, (6, 0))]) (pcN := 3743) jI_379_3740 rfl rfl (by decide) rfl rfl ?_
  refine jT_xgoto (pcN := 28) jI_379_3743 rfl ?_
  refine jT_xiload (v := (0, 5)) (pcN := 30) jI_379_28 rfl rfl rfl ?_
  refine jT_xaload_n (v := (6, 0)) (pcN := 31) jI_379_30 rfl rfl rfl ?_
  refine jT_adv 1 (pcN := 32) (LN := [(5, (0, 5)), (7, (1, 0)), (6, (0, 0)), (4, (4, 3)), (3, (4, 2)), (2, (4, 1)), (1, (4, 0)), (0, (6, 0))]) (stN := [(0, 5), (0, 5)]) (hsN := jpA_4391) (c1 := 0) (s1 := 0) (c2 := 0) (s2 := 0) (by exact rfl) ?_ (by omega) (by omega)
  refine jT_xiconst (k := 5) (pcN := 33) jI_379_32 rfl ?_
  refine jT_xisub (x := 5) (y := 5) (z := 0) (pcN := 34) jI_379_33 rfl (by decide) rfl ?_
  refine jT_xicT (pcN := 3746) jI_379_34 rfl (by decide +kernel) rfl ?_
  refine jT_xiconst (k := 1) (pcN := 3747) jI_379_3746 rfl ?_
  exact jT_ret rfl (by decide) (by show 45 ≤ 51; decide) (by omega) (by omega) ⟨rfl, rfl⟩
set_option maxRecDepth 100000 in
theorem jL_22_16 {d : Nat} {x0 x1 x2 x3 x4 : Int} (h_x0 : (-2147483648) ≤ x0 ∧ x0 ≤ 2147483647) (h_x1 : 0 ≤ x1 ∧ x1 ≤ 7) (h_x2 : 4 ≤ x2 ∧ x2 ≤ 4) (h_x3 : 1 ≤ x3 ∧ x3 ≤ 1) (h_x4 : (-2147483648) ≤ x4 ∧ x4 ≤ 2147483647) : jT [x0, x1, x2, x3, x4] (d + 8) 379 45 1863 [(5, (0, 0)), (4, (4, 3)), (3, (4, 2)), (2, (4, 1)), (1, (4, 0)), (0, (6, 0))] [] jpA_4078 9 200 (fun k v hsN => k = 0 ∧ v = (0, 1)) := by
  refine jT_xaload_n (v := (4, 0)) (pcN := 1864) jI_379_1863 rfl rfl rfl ?_
  refine jT_xaload_n (v := (6, 0)) (pcN := 1865) jI_379_1864 rfl rfl rfl ?_
  refine jT_xiload (v := (0, 0)) (pcN := 1867) jI_379_1865 rfl rfl rfl ?_
  refine jT_xiconst (k := 1) (pcN := 1868) jI_379_1867 rfl ?_
  refine jT_xiadd (x := 0) (y := 1) (z := 1) (pcN := 1869) jI_379_1868 rfl (by decide) rfl ?_
  refine jT_adv 1 (pcN := 1870) (LN := [(5, (0, 0)), (4, (4, 3)), (3, (4, 2)), (2, (4, 1)), (1, (4, 0)), (0, (6, 0))]) (stN := [(0, x1), (4, 0)]) (hsN := jpA_4078) (c1 := 0) (s1 := 0) (c2 := 9) (s2 := 200) (by exact rfl) ?_ (by omega) (by omega)
  refine jT_xaload_n (v := (6, 0)) (pcN := 1871) jI_379_1870 rfl rfl rfl ?_
  refine jT_xiload (v := (0, 0)) (pcN := 1873) jI_379_1871 rfl rfl rfl ?_
  refine jT_xiconst (k := 2) (pcN := 1874) jI_379_1873 rfl ?_
  refine jT_xiadd (x := 0) (y := 2) (z := 2) (pcN := 1875) jI_379_1874 rfl (by decide) rfl ?_
  refine jT_adv 1 (pcN := 1876) (LN := [(5, (0, 0)), (4, (4, 3)), (3, (4, 2)), (2, (4, 1)), (1, (4, 0)), (0, (6, 0))]) (stN := [(0, x2), (0, x1), (4, 0)]) (hsN := jpA_4078) (c1 := 0) (s1 := 0) (c2 := 9) (s2 := 200) (by exact rfl) ?_ (by omega) (by omega)
  refine jT_eq (LN := [(5, (0, 0)), (4, (4, 3)), (3, (4, 2)), (2, (4, 1)), (1, (4, 0)), (0, (6, 0))]) (stN := [(0, 4), (0, x1), (4, 0)]) (hsN := [jzA_265, jzA_266, (101, [], [0]), jgh, (8, [(4, 30), (4, 31)], []), jgh, jgh, jgh, jgh, jgh, jgh, jgh, jgh, jgh, jzA_721, (100, [], jS0), jgh, jgh, jgh, jgh, (130, [], [37, 38, 39, 40, 41, 42]), (101, [], [0, 0, 0, 0, 0, 0]), jgh, jgh, jgh, jgh, jgh, jgh, jgh, jgh, jgh, jgh, jzA_324, jgh, jgh, jgh, jgh, (100, [], (jenc (jlg 0))), jgh, jgh, jgh, jgh, jgh, (4, [(4, 44), (1, 1)], []), (101, [], [0, 0, 0, 0, 0, 0])]) (rfl) (by simp only [List.cons.injEq, Prod.mk.injEq, and_true, true_and] <;> ((try unfold jw); (try unfold jwl); omega)) (rfl) ?_
  refine jT_xaload_n (v := (6, 0)) (pcN := 1877) jI_379_1876 rfl rfl rfl ?_
  refine jT_xiload (v := (0, 0)) (pcN := 1879) jI_379_1877 rfl rfl rfl ?_
  refine jT_xiconst (k := 3) (pcN := 1880) jI_379_1879 rfl ?_
  refine jT_xiadd (x := 0) (y := 3) (z := 3) (pcN := 1881) jI_379_1880 rfl (by decide) rfl ?_
  refine jT_adv 1 (pcN := 1882) (LN := [(5, (0, 0)), (4, (4, 3)), (3, (4, 2)), (2, (4, 1)), (1, (4, 0)), (0, (6, 0))]) (stN := [(0, x3), (0, 4), (0, x1), (4, 0)]) (hsN := jpA_4078) (c1 := 0) (s1 := 0) (c2 := 9) (s2 := 200) (by exact rfl) ?_ (by omega) (by omega)
  refine jT_eq (LN := [(5, (0, 0)), (4, (4, 3)), (3, (4, 2)), (2, (4, 1)), (1, (4, 0)), (0, (6, 0))]) (stN := [(0, 1), (0, 4), (0, x1), (4, 0)]) (hsN := [jzA_265, jzA_266, (101, [], [0]), jgh, (8, [(4, 30), (4, 31)], []), jgh, jgh, jgh, jgh, jgh, jgh, jgh, jgh, jgh, jzA_721, (100, [], jS0), jgh, jgh, jgh, jgh, (130, [], [37, 38, 39, 40, 41, 42]), (101, [], [0, 0, 0, 0, 0, 0]), jgh, jgh, jgh, jgh, jgh, jgh, jgh, jgh, jgh, jgh, jzA_324, jgh, jgh, jgh, jgh, (100, [], (jenc (jlg 0))), jgh, jgh, jgh, jgh, jgh, (4, [(4, 44), (1, 1)], []), (101, [], [0, 0, 0, 0, 0, 0])]) (rfl) (by simp only [List.cons.injEq, Prod.mk.injEq, and_true, true_and] <;> ((try unfold jw); (try unfold jwl); omega)) (rfl) ?_
  refine jT_xaload_n (v := (4, 2)) (pcN := 1883) jI_379_1882 rfl rfl rfl ?_
  refine jT_fA [0, 2, 4, 5, 6, 7, 8, 9, 10, 11, 12, 13, 14, 30, 31, 32, 33, 34, 35, 36, 43, 44] 45 (y := 347) (pcN := 1886) (dC := 5) (bc1 := 2) (bc2 := 8) (c1 := 7) (c2 := 192) (as := [(4, 0), (0, x1), (0, 4), (0, 1), (4, 2)]) (asC := [(4, 0), (0, x1), (0, 4), (0, 1), (4, 1)]) (LN := [(5, (0, 0)), (4, (4, 3)), (3, (4, 2)), (2, (4, 1)), (1, (4, 0)), (0, (6, 0))]) (stN := []) (hsC := jpA_4038) (ex := [(101, [], [0, 0, 0, 0, 0, 0]), (4, [(4, 22), (1, 1)], [])]) (v := (0, 0)) (st2 := [(0, 0)]) (hs2 := jpA_4397) (jA_347_1396 (d := 0) (by omega)) (by rfl) (by rfl) (by decide +kernel) (by rfl) (by rfl) (by omega) (by omega) (by omega) (by omega) rfl (by decide +kernel) ?_
  refine jT_xistore (v := (0, 0)) (LN := [(6, (0, 0)), (5, (0, 0)), (4, (4, 3)), (3, (4, 2)), (2, (4, 1)), (1, (4, 0)), (0, (6, 0))]) (pcN := 1888) jI_379_1886 rfl rfl rfl rfl ?_
  refine jT_xaload_n (v := (4, 1)) (pcN := 1889) jI_379_1888 rfl rfl rfl ?_
  refine jT_xaload_n (v := (6, 0)) (pcN := 1890) jI_379_1889 rfl rfl rfl ?_
  refine jT_xiload (v := (0, 0)) (pcN := 1892) jI_379_1890 rfl rfl rfl ?_
  refine jT_xiconst (k := 1) (pcN := 1893) jI_379_1892 rfl ?_
  refine jT_xiadd (x := 0) (y := 1) (z := 1) (pcN := 1894) jI_379_1893 rfl (by decide) rfl ?_
  refine jT_adv 1 (pcN := 1895) (LN := [(6, (0, 0)), (5, (0, 0)), (4, (4, 3)), (3, (4, 2)), (2, (4, 1)), (1, (4, 0)), (0, (6, 0))]) (stN := [(0, x1), (4, 1)]) (hsN := jpA_4397) (c1 := 0) (s1 := 0) (c2 := 7) (s2 := 192) (by exact rfl) ?_ (by omega) (by omega)
  refine jT_xaload_n (v := (6, 0)) (pcN := 1896) jI_379_1895 rfl rfl rfl ?_
  refine jT_xiload (v := (0, 0)) (pcN := 1898) jI_379_1896 rfl rfl rfl ?_
  refine jT_xiconst (k := 2) (pcN := 1899) jI_379_1898 rfl ?_
  refine jT_xiadd (x := 0) (y := 2) (z := 2) (pcN := 1900) jI_379_1899 rfl (by decide) rfl ?_
  refine jT_adv 1 (pcN := 1901) (LN := [(6, (0, 0)), (5, (0, 0)), (4, (4, 3)), (3, (4, 2)), (2, (4, 1)), (1, (4, 0)), (0, (6, 0))]) (stN := [(0, x2), (0, x1), (4, 1)]) (hsN := jpA_4397) (c1 := 0) (s1 := 0) (c2 := 7) (s2 := 192) (by exact rfl) ?_ (by omega) (by omega)
  refine jT_eq (LN := [(6, (0, 0)), (5, (0, 0)), (4, (4, 3)), (3, (4, 2)), (2, (4, 1)), (1, (4, 0)), (0, (6, 0))]) (stN := [(0, 4), (0, x1), (4, 1)]) (hsN := [jzA_265, jzA_266, (101, [], [0]), jgh, (8, [(4, 30), (4, 31)], []), jgh, jgh, jgh, jgh, jgh, jgh, jgh, jgh, jgh, jzA_721, (100, [], jS0), jgh, jgh, jgh, jgh, (130, [], [37, 38, 39, 40, 41, 42]), (101, [], [0, 0, 0, 0, 0, 0]), jgh, jgh, jgh, jgh, jgh, jgh, jgh, jgh, jgh, jgh, jzA_324, jgh, jgh, jgh, jgh, (100, [], (jenc (jlg 0))), jgh, jgh, jgh, jgh, jgh, (4, [(4, 44), (1, 1)], []), (101, [], [0, 0, 0, 0, 0, 0]), (101, [], [0, 0, 0, 0, 0, 0]), (4, [(4, 45), (1, 1)], [])]) (rfl) (by simp only [List.cons.injEq, Prod.mk.injEq, and_true, true_and] <;> ((try unfold jw); (try unfold jwl); omega)) (rfl) ?_
  refine jT_xaload_n (v := (6, 0)) (pcN := 1902) jI_379_1901 rfl rfl rfl ?_
  refine jT_xiload (v := (0, 0)) (pcN := 1904) jI_379_1902 rfl rfl rfl ?_
  refine jT_xiconst (k := 3) (pcN := 1905) jI_379_1904 rfl ?_
  refine jT_xiadd (x := 0) (y := 3) (z := 3) (pcN := 1906) jI_379_1905 rfl (by decide) rfl ?_
  refine jT_adv 1 (pcN := 1907) (LN := [(6, (0, 0)), (5, (0, 0)), (4, (4, 3)), (3, (4, 2)), (2, (4, 1)), (1, (4, 0)), (0, (6, 0))]) (stN := [(0, x3), (0, 4), (0, x1), (4, 1)]) (hsN := jpA_4397) (c1 := 0) (s1 := 0) (c2 := 7) (s2 := 192) (by exact rfl) ?_ (by omega) (by omega)
  refine jT_eq (LN := [(6, (0, 0)), (5, (0, 0)), (4, (4, 3)), (3, (4, 2)), (2, (4, 1)), (1, (4, 0)), (0, (6, 0))]) (stN := [(0, 1), (0, 4), (0, x1), (4, 1)]) (hsN := [jzA_265, jzA_266, (101, [], [0]), jgh, (8, [(4, 30), (4, 31)], []), jgh, jgh, jgh, jgh, jgh, jgh, jgh, jgh, jgh, jzA_721, (100, [], jS0), jgh, jgh, jgh, jgh, (130, [], [37, 38, 39, 40, 41, 42]), (101, [], [0, 0, 0, 0, 0, 0]), jgh, jgh, jgh, jgh, jgh, jgh, jgh, jgh, jgh, jgh, jzA_324, jgh, jgh, jgh, jgh, (100, [], (jenc (jlg 0))), jgh, jgh, jgh, jgh, jgh, (4, [(4, 44), (1, 1)], []), (101, [], [0, 0, 0, 0, 0, 0]), (101, [], [0, 0, 0, 0, 0, 0]), (4, [(4, 45), (1, 1)], [])]) (rfl) (by simp only [List.cons.injEq, Prod.mk.injEq, and_true, true_and] <;> ((try unfold jw); (try unfold jwl); omega)) (rfl) ?_
  refine jT_fA [1, 15, 16, 17, 18, 19, 20, 21, 22, 23, 24, 25, 26, 27, 28, 29, 37, 38, 39, 40, 41, 42] 47 (y := 263) (pcN := 1910) (dC := 7) (bc1 := 7) (bc2 := 192) (c1 := 0) (c2 := 0) (as := [(4, 1), (0, x1), (0, 4), (0, 1)]) (asC := [(4, 0), (0, x1), (0, 4), (0, 1)]) (LN := [(6, (0, 0)), (5, (0, 0)), (4, (4, 3)), (3, (4, 2)), (2, (4, 1)), (1, (4, 0)), (0, (6, 0))]) (stN := []) (hsC := jpA_1695) (ex := jpA_4354) (v := (1, 0)) (st2 := [(1, 0)]) (hs2 := jpA_4398) (jA_263_1398 (d := 0) (by omega)) (by rfl) (by rfl) (by decide +kernel) (by rfl) (by rfl) (by omega) (by omega) (by omega) (by omega) rfl (by decide +kernel) ?_
  refine jT_xlstore (v := (1, 0)) (LN := [(7, (1, 0)), (6, (0, 0)), (5, (0, 0)), (4, (4, 3)), (3, (4, 2)), (2, (4, 1)), (1, (4, 0)), (0, (6, 0))]) (pcN := 1912) jI_379_1910 rfl rfl rfl rfl ?_
  refine jT_xaload_n (v := (4, 1)) (pcN := 1913) jI_379_1912 rfl rfl rfl ?_
  refine jT_fR [1, 15, 16, 17, 18, 19, 20, 21, 22, 23, 24, 25, 26, 27, 28, 29] 54 (y := 186) (pcN := 1916) (dC := 0) (bc1 := 0) (bc2 := 0) (c1 := 0) (c2 := 0) (as := [(4, 1)]) (asC := [(4, 0)]) (LN := [(7, (1, 0)), (6, (0, 0)), (5, (0, 0)), (4, (4, 3)), (3, (4, 2)), (2, (4, 1)), (1, (4, 0)), (0, (6, 0))]) (stN := []) (hsC := jpA_22) (v := (0, 0)) (st2 := [(0, 0)]) (jA_186_726 (d := 0)) (by rfl) (by rfl) (by decide +kernel) (by rfl) (by rfl) (by omega) (by omega) (by omega) (by omega) rfl ?_
  refine jT_xiload (v := (0, 0)) (pcN := 1918) jI_379_1916 rfl rfl rfl ?_
  refine jT_xicT (pcN := 1923) jI_379_1918 rfl (by decide +kernel) rfl ?_
  refine jT_xiload (v := (0, 0)) (pcN := 1925) jI_379_1923 rfl rfl rfl ?_
  refine jT_xifF (t := 1939) (pcN := 1928) jI_379_1925 rfl (by decide +kernel) rfl rfl ?_
  refine jT_xaload_n (v := (4, 2)) (pcN := 1929) jI_379_1928 rfl rfl rfl ?_
  refine jT_xiconst (k := 0) (pcN := 1930) jI_379_1929 rfl ?_
  refine jT_lald (x := 0) (a := 2) (j := 0) (fs := []) (X := [0]) jI_379_1930 rfl rfl rfl rfl ?_
  refine jT_eq (LN := [(7, (1, 0)), (6, (0, 0)), (5, (0, 0)), (4, (4, 3)), (3, (4, 2)), (2, (4, 1)), (1, (4, 0)), (0, (6, 0))]) (stN := [(1, 0)]) (hsN := jpA_4398) rfl rfl rfl ?_
  refine jT_xlload (v := (1, 0)) (pcN := 1933) jI_379_1931 rfl rfl rfl ?_
  refine jT_lcmp (a := 0) (b := 0) (z := 0) (by rfl) (by rfl) (by decide +kernel) (by decide +kernel) (by decide) ?_
  refine jT_xifT (pcN := 1939) jI_379_1934 rfl (by decide +kernel) rfl ?_
  refine jT_xgoto (pcN := 3740) jI_379_1939 rfl ?_
  refine jT_xiinc (x := 0) (z := 5) (LN := [(5, (0, 5)), (7, (1, 0)), (6, (0, 0)), (4, (4, 3)), (3, (4, 2)), (2, (4, 1)), (1, (4, 0)), (0, (6, 0))]) (pcN := 3743) jI_379_3740 rfl rfl (by decide) rfl rfl ?_
  refine jT_xgoto (pcN := 28) jI_379_3743 rfl ?_
  refine jT_xiload (v := (0, 5)) (pcN := 30) jI_379_28 rfl rfl rfl ?_
  refine jT_xaload_n (v := (6, 0)) (pcN := 31) jI_379_30 rfl rfl rfl ?_
  refine jT_adv 1 (pcN := 32) (LN := [(5, (0, 5)), (7, (1, 0)), (6, (0, 0)), (4, (4, 3)), (3, (4, 2)), (2, (4, 1)), (1, (4, 0)), (0, (6, 0))]) (stN := [(0, 5), (0, 5)]) (hsN := jpA_4398) (c1 := 0) (s1 := 0) (c2 := 0) (s2 := 0) (by exact rfl) ?_ (by omega) (by omega)
  refine jT_xiconst (k := 5) (pcN := 33) jI_379_32 rfl ?_
  refine jT_xisub (x := 5) (y := 5) (z := 0) (pcN := 34) jI_379_33 rfl (by decide) rfl ?_
  refine jT_xicT (pcN := 3746) jI_379_34 rfl (by decide +kernel) rfl ?_
  refine jT_xiconst (k := 1) (pcN := 3747) jI_379_3746 rfl ?_
  exact jT_ret rfl (by decide) (by show 45 ≤ 54; decide) (by omega) (by omega) ⟨rfl, rfl⟩
set_option maxRecDepth 100000 in
theorem jL_22_17 {d : Nat} {x0 x1 x2 x3 x4 : Int} (h_x0 : (-2147483648) ≤ x0 ∧ x0 ≤ 2147483647) (h_x1 : 0 ≤ x1 ∧ x1 ≤ 7) (h_x2 : 4 ≤ x2 ∧ x2 ≤ 4) (h_x3 : 2 ≤ x3 ∧ x3 ≤ 2) (h_x4 : (-2147483648) ≤ x4 ∧ x4 ≤ 2147483647) : jT [x0, x1, x2, x3, x4] (d + 9) 379 45 1863 [(5, (0, 0)), (4, (4, 3)), (3, (4, 2)), (2, (4, 1)), (1, (4, 0)), (0, (6, 0))] [] jpA_4078 10 360 (fun k v hsN => k = 0 ∧ v = (0, 1)) := by
  refine jT_xaload_n (v := (4, 0)) (pcN := 1864) jI_379_1863 rfl rfl rfl ?_
  refine jT_xaload_n (v := (6, 0)) (pcN := 1865) jI_379_1864 rfl rfl rfl ?_
  refine jT_xiload (v := (0, 0)) (pcN := 1867) jI_379_1865 rfl rfl rfl ?_
  refine jT_xiconst (k := 1) (pcN := 1868) jI_379_1867 rfl ?_
  refine jT_xiadd (x := 0) (y := 1) (z := 1) (pcN := 1869) jI_379_1868 rfl (by decide) rfl ?_
  refine jT_adv 1 (pcN := 1870) (LN := [(5, (0, 0)), (4, (4, 3)), (3, (4, 2)), (2, (4, 1)), (1, (4, 0)), (0, (6, 0))]) (stN := [(0, x1), (4, 0)]) (hsN := jpA_4078) (c1 := 0) (s1 := 0) (c2 := 10) (s2 := 360) (by exact rfl) ?_ (by omega) (by omega)
  refine jT_xaload_n (v := (6, 0)) (pcN := 1871) jI_379_1870 rfl rfl rfl ?_
  refine jT_xiload (v := (0, 0)) (pcN := 1873) jI_379_1871 rfl rfl rfl ?_
  refine jT_xiconst (k := 2) (pcN := 1874) jI_379_1873 rfl ?_
  refine jT_xiadd (x := 0) (y := 2) (z := 2) (pcN := 1875) jI_379_1874 rfl (by decide) rfl ?_
  refine jT_adv 1 (pcN := 1876) (LN := [(5, (0, 0)), (4, (4, 3)), (3, (4, 2)), (2, (4, 1)), (1, (4, 0)), (0, (6, 0))]) (stN := [(0, x2), (0, x1), (4, 0)]) (hsN := jpA_4078) (c1 := 0) (s1 := 0) (c2 := 10) (s2 := 360) (by exact rfl) ?_ (by omega) (by omega)
  refine jT_eq (LN := [(5, (0, 0)), (4, (4, 3)), (3, (4, 2)), (2, (4, 1)), (1, (4, 0)), (0, (6, 0))]) (stN := [(0, 4), (0, x1), (4, 0)]) (hsN := [jzA_265, jzA_266, (101, [], [0]), jgh, (8, [(4, 30), (4, 31)], []), jgh, jgh, jgh, jgh, jgh, jgh, jgh, jgh, jgh, jzA_721, (100, [], jS0), jgh, jgh, jgh, jgh, (130, [], [37, 38, 39, 40, 41, 42]), (101, [], [0, 0, 0, 0, 0, 0]), jgh, jgh, jgh, jgh, jgh, jgh, jgh, jgh, jgh, jgh, jzA_324, jgh, jgh, jgh, jgh, (100, [], (jenc (jlg 0))), jgh, jgh, jgh, jgh, jgh, (4, [(4, 44), (1, 1)], []), (101, [], [0, 0, 0, 0, 0, 0])]) (rfl) (by simp only [List.cons.injEq, Prod.mk.injEq, and_true, true_and] <;> ((try unfold jw); (try unfold jwl); omega)) (rfl) ?_
  refine jT_xaload_n (v := (6, 0)) (pcN := 1877) jI_379_1876 rfl rfl rfl ?_
  refine jT_xiload (v := (0, 0)) (pcN := 1879) jI_379_1877 rfl rfl rfl ?_
  refine jT_xiconst (k := 3) (pcN := 1880) jI_379_1879 rfl ?_
  refine jT_xiadd (x := 0) (y := 3) (z := 3) (pcN := 1881) jI_379_1880 rfl (by decide) rfl ?_
  refine jT_adv 1 (pcN := 1882) (LN := [(5, (0, 0)), (4, (4, 3)), (3, (4, 2)), (2, (4, 1)), (1, (4, 0)), (0, (6, 0))]) (stN := [(0, x3), (0, 4), (0, x1), (4, 0)]) (hsN := jpA_4078) (c1 := 0) (s1 := 0) (c2 := 10) (s2 := 360) (by exact rfl) ?_ (by omega) (by omega)
  refine jT_eq (LN := [(5, (0, 0)), (4, (4, 3)), (3, (4, 2)), (2, (4, 1)), (1, (4, 0)), (0, (6, 0))]) (stN := [(0, 2), (0, 4), (0, x1), (4, 0)]) (hsN := [jzA_265, jzA_266, (101, [], [0]), jgh, (8, [(4, 30), (4, 31)], []), jgh, jgh, jgh, jgh, jgh, jgh, jgh, jgh, jgh, jzA_721, (100, [], jS0), jgh, jgh, jgh, jgh, (130, [], [37, 38, 39, 40, 41, 42]), (101, [], [0, 0, 0, 0, 0, 0]), jgh, jgh, jgh, jgh, jgh, jgh, jgh, jgh, jgh, jgh, jzA_324, jgh, jgh, jgh, jgh, (100, [], (jenc (jlg 0))), jgh, jgh, jgh, jgh, jgh, (4, [(4, 44), (1, 1)], []), (101, [], [0, 0, 0, 0, 0, 0])]) (rfl) (by simp only [List.cons.injEq, Prod.mk.injEq, and_true, true_and] <;> ((try unfold jw); (try unfold jwl); omega)) (rfl) ?_
  refine jT_xaload_n (v := (4, 2)) (pcN := 1883) jI_379_1882 rfl rfl rfl ?_
  refine jT_fR [0, 2, 4, 5, 6, 7, 8, 9, 10, 11, 12, 13, 14, 30, 31, 32, 33, 34, 35, 36, 43, 44] 45 (y := 347) (pcN := 1886) (dC := 6) (bc1 := 0) (bc2 := 0) (c1 := 10) (c2 := 360) (as := [(4, 0), (0, x1), (0, 4), (0, 2), (4, 2)]) (asC := [(4, 0), (0, x1), (0, 4), (0, 2), (4, 1)]) (LN := [(5, (0, 0)), (4, (4, 3)), (3, (4, 2)), (2, (4, 1)), (1, (4, 0)), (0, (6, 0))]) (stN := []) (hsC := jpA_4038) (v := (0, 0)) (st2 := [(0, 0)]) (jA_347_1404 (d := 0) (by omega)) (by rfl) (by rfl) (by decide +kernel) (by rfl) (by rfl) (by omega) (by omega) (by omega) (by omega) rfl ?_
  refine jT_xistore (v := (0, 0)) (LN := [(6, (0, 0)), (5, (0, 0)), (4, (4, 3)), (3, (4, 2)), (2, (4, 1)), (1, (4, 0)), (0, (6, 0))]) (pcN := 1888) jI_379_1886 rfl rfl rfl rfl ?_
  refine jT_xaload_n (v := (4, 1)) (pcN := 1889) jI_379_1888 rfl rfl rfl ?_
  refine jT_xaload_n (v := (6, 0)) (pcN := 1890) jI_379_1889 rfl rfl rfl ?_
  refine jT_xiload (v := (0, 0)) (pcN := 1892) jI_379_1890 rfl rfl rfl ?_
  refine jT_xiconst (k := 1) (pcN := 1893) jI_379_1892 rfl ?_
  refine jT_xiadd (x := 0) (y := 1) (z := 1) (pcN := 1894) jI_379_1893 rfl (by decide) rfl ?_
  refine jT_adv 1 (pcN := 1895) (LN := [(6, (0, 0)), (5, (0, 0)), (4, (4, 3)), (3, (4, 2)), (2, (4, 1)), (1, (4, 0)), (0, (6, 0))]) (stN := [(0, x1), (4, 1)]) (hsN := jpA_4078) (c1 := 0) (s1 := 0) (c2 := 10) (s2 := 360) (by exact rfl) ?_ (by omega) (by omega)
  refine jT_xaload_n (v := (6, 0)) (pcN := 1896) jI_379_1895 rfl rfl rfl ?_
  refine jT_xiload (v := (0, 0)) (pcN := 1898) jI_379_1896 rfl rfl rfl ?_
  refine jT_xiconst (k := 2) (pcN := 1899) jI_379_1898 rfl ?_
  refine jT_xiadd (x := 0) (y := 2) (z := 2) (pcN := 1900) jI_379_1899 rfl (by decide) rfl ?_
  refine jT_adv 1 (pcN := 1901) (LN := [(6, (0, 0)), (5, (0, 0)), (4, (4, 3)), (3, (4, 2)), (2, (4, 1)), (1, (4, 0)), (0, (6, 0))]) (stN := [(0, x2), (0, x1), (4, 1)]) (hsN := jpA_4078) (c1 := 0) (s1 := 0) (c2 := 10) (s2 := 360) (by exact rfl) ?_ (by omega) (by omega)
  refine jT_eq (LN := [(6, (0, 0)), (5, (0, 0)), (4, (4, 3)), (3, (4, 2)), (2, (4, 1)), (1, (4, 0)), (0, (6, 0))]) (stN := [(0, 4), (0, x1), (4, 1)]) (hsN := [jzA_265, jzA_266, (101, [], [0]), jgh, (8, [(4, 30), (4, 31)], []), jgh, jgh, jgh, jgh, jgh, jgh, jgh, jgh, jgh, jzA_721, (100, [], jS0), jgh, jgh, jgh, jgh, (130, [], [37, 38, 39, 40, 41, 42]), (101, [], [0, 0, 0, 0, 0, 0]), jgh, jgh, jgh, jgh, jgh, jgh, jgh, jgh, jgh, jgh, jzA_324, jgh, jgh, jgh, jgh, (100, [], (jenc (jlg 0))), jgh, jgh, jgh, jgh, jgh, (4, [(4, 44), (1, 1)], []), (101, [], [0, 0, 0, 0, 0, 0])]) (rfl) (by simp only [List.cons.injEq, Prod.mk.injEq, and_true, true_and] <;> ((try unfold jw); (try unfold jwl); omega)) (rfl) ?_
  refine jT_xaload_n (v := (6, 0)) (pcN := 1902) jI_379_1901 rfl rfl rfl ?_
  refine jT_xiload (v := (0, 0)) (pcN := 1904) jI_379_1902 rfl rfl rfl ?_
  refine jT_xiconst (k := 3) (pcN := 1905) jI_379_1904 rfl ?_
  refine jT_xiadd (x := 0) (y := 3) (z := 3) (pcN := 1906) jI_379_1905 rfl (by decide) rfl ?_
  refine jT_adv 1 (pcN := 1907) (LN := [(6, (0, 0)), (5, (0, 0)), (4, (4, 3)), (3, (4, 2)), (2, (4, 1)), (1, (4, 0)), (0, (6, 0))]) (stN := [(0, x3), (0, 4), (0, x1), (4, 1)]) (hsN := jpA_4078) (c1 := 0) (s1 := 0) (c2 := 10) (s2 := 360) (by exact rfl) ?_ (by omega) (by omega)
  refine jT_eq (LN := [(6, (0, 0)), (5, (0, 0)), (4, (4, 3)), (3, (4, 2)), (2, (4, 1)), (1, (4, 0)), (0, (6, 0))]) (stN := [(0, 2), (0, 4), (0, x1), (4, 1)]) (hsN := [jzA_265, jzA_266, (101, [], [0]), jgh, (8, [(4, 30), (4, 31)], []), jgh, jgh, jgh, jgh, jgh, jgh, jgh, jgh, jgh, jzA_721, (100, [], jS0), jgh, jgh, jgh, jgh, (130, [], [37, 38, 39, 40, 41, 42]), (101, [], [0, 0, 0, 0, 0, 0]), jgh, jgh, jgh, jgh, jgh, jgh, jgh, jgh, jgh, jgh, jzA_324, jgh, jgh, jgh, jgh, (100, [], (jenc (jlg 0))), jgh, jgh, jgh, jgh, jgh, (4, [(4, 44), (1, 1)], []), (101, [], [0, 0, 0, 0, 0, 0])]) (rfl) (by simp only [List.cons.injEq, Prod.mk.injEq, and_true, true_and] <;> ((try unfold jw); (try unfold jwl); omega)) (rfl) ?_
  refine jT_fA [1, 15, 16, 17, 18, 19, 20, 21, 22, 23, 24, 25, 26, 27, 28, 29, 37, 38, 39, 40, 41, 42] 45 (y := 263) (pcN := 1910) (dC := 8) (bc1 := 10) (bc2 := 360) (c1 := 0) (c2 := 0) (as := [(4, 1), (0, x1), (0, 4), (0, 2)]) (asC := [(4, 0), (0, x1), (0, 4), (0, 2)]) (LN := [(6, (0, 0)), (5, (0, 0)), (4, (4, 3)), (3, (4, 2)), (2, (4, 1)), (1, (4, 0)), (0, (6, 0))]) (stN := []) (hsC := jpA_1695) (ex := jpA_3654) (v := (1, 0)) (st2 := [(1, 0)]) (hs2 := jpA_4079) (jA_263_1406 (d := 0) (by omega)) (by rfl) (by rfl) (by decide +kernel) (by rfl) (by rfl) (by omega) (by omega) (by omega) (by omega) rfl (by decide +kernel) ?_
  refine jT_xlstore (v := (1, 0)) (LN := [(7, (1, 0)), (6, (0, 0)), (5, (0, 0)), (4, (4, 3)), (3, (4, 2)), (2, (4, 1)), (1, (4, 0)), (0, (6, 0))]) (pcN := 1912) jI_379_1910 rfl rfl rfl rfl ?_
  refine jT_xaload_n (v := (4, 1)) (pcN := 1913) jI_379_1912 rfl rfl rfl ?_
  refine jT_fR [1, 15, 16, 17, 18, 19, 20, 21, 22, 23, 24, 25, 26, 27, 28, 29] 55 (y := 186) (pcN := 1916) (dC := 0) (bc1 := 0) (bc2 := 0) (c1 := 0) (c2 := 0) (as := [(4, 1)]) (asC := [(4, 0)]) (LN := [(7, (1, 0)), (6, (0, 0)), (5, (0, 0)), (4, (4, 3)), (3, (4, 2)), (2, (4, 1)), (1, (4, 0)), (0, (6, 0))]) (stN := []) (hsC := jpA_22) (v := (0, 0)) (st2 := [(0, 0)]) (jA_186_726 (d := 0)) (by rfl) (by rfl) (by decide +kernel) (by rfl) (by rfl) (by omega) (by omega) (by omega) (by omega) rfl ?_
  refine jT_xiload (v := (0, 0)) (pcN := 1918) jI_379_1916 rfl rfl rfl ?_
  refine jT_xicT (pcN := 1923) jI_379_1918 rfl (by decide +kernel) rfl ?_
  refine jT_xiload (v := (0, 0)) (pcN := 1925) jI_379_1923 rfl rfl rfl ?_
  refine jT_xifF (t := 1939) (pcN := 1928) jI_379_1925 rfl (by decide +kernel) rfl rfl ?_
  refine jT_xaload_n (v := (4, 2)) (pcN := 1929) jI_379_1928 rfl rfl rfl ?_
  refine jT_xiconst (k := 0) (pcN := 1930) jI_379_1929 rfl ?_
  refine jT_lald (x := 0) (a := 2) (j := 0) (fs := []) (X := [0]) jI_379_1930 rfl rfl rfl rfl ?_
  refine jT_eq (LN := [(7, (1, 0)), (6, (0, 0)), (5, (0, 0)), (4, (4, 3)), (3, (4, 2)), (2, (4, 1)), (1, (4, 0)), (0, (6, 0))]) (stN := [(1, 0)]) (hsN := jpA_4079) rfl rfl rfl ?_
  refine jT_xlload (v := (1, 0)) (pcN := 1933) jI_379_1931 rfl rfl rfl ?_
  refine jT_lcmp (a := 0) (b := 0) (z := 0) (by rfl) (by rfl) (by decide +kernel) (by decide +kernel) (by decide) ?_
  refine jT_xifT (pcN := 1939) jI_379_1934 rfl (by decide +kernel) rfl ?_
  refine jT_xgoto (pcN := 3740) jI_379_1939 rfl ?_
  refine jT_xiinc (x := 0) (z := 5) (LN := [(5, (0, 5)), (7, (1, 0)), (6, (0, 0)), (4, (4, 3)), (3, (4, 2)), (2, (4, 1)), (1, (4, 0)), (0, (6, 0))]) (pcN := 3743) jI_379_3740 rfl rfl (by decide) rfl rfl ?_
  refine jT_xgoto (pcN := 28) jI_379_3743 rfl ?_
  refine jT_xiload (v := (0, 5)) (pcN := 30) jI_379_28 rfl rfl rfl ?_
  refine jT_xaload_n (v := (6, 0)) (pcN := 31) jI_379_30 rfl rfl rfl ?_
  refine jT_adv 1 (pcN := 32) (LN := [(5, (0, 5)), (7, (1, 0)), (6, (0, 0)), (4, (4, 3)), (3, (4, 2)), (2, (4, 1)), (1, (4, 0)), (0, (6, 0))]) (stN := [(0, 5), (0, 5)]) (hsN := jpA_4079) (c1 := 0) (s1 := 0) (c2 := 0) (s2 := 0) (by exact rfl) ?_ (by omega) (by omega)
  refine jT_xiconst (k := 5) (pcN := 33) jI_379_32 rfl ?_
  refine jT_xisub (x := 5) (y := 5) (z := 0) (pcN := 34) jI_379_33 rfl (by decide) rfl ?_
  refine jT_xicT (pcN := 3746) jI_379_34 rfl (by decide +kernel) rfl ?_
  refine jT_xiconst (k := 1) (pcN := 3747) jI_379_3746 rfl ?_
  exact jT_ret rfl (by decide) (by show 45 ≤ 55; decide) (by omega) (by omega) ⟨rfl, rfl⟩
set_option maxRecDepth 100000 in
theorem jL_22_18 {d : Nat} {x0 x1 x2 x3 x4 : Int} (h_x0 : (-2147483648) ≤ x0 ∧ x0 ≤ 2147483647) (h_x1 : 0 ≤ x1 ∧ x1 ≤ 7) (h_x2 : 5 ≤ x2 ∧ x2 ≤ 5) (h_x3 : 0 ≤ x3 ∧ x3 ≤ 0) (h_x4 : (-2147483648) ≤ x4 ∧ x4 ≤ 2147483647) : jT [x0, x1, x2, x3, x4] (d + 8) 379 45 1863 [(5, (0, 0)), (4, (4, 3)), (3, (4, 2)), (2, (4, 1)), (1, (4, 0)), (0, (6, 0))] [] jpA_4078 6 186 (fun k v hsN => k = 0 ∧ v = (0, 1)) := by
  refine jT_xaload_n (v := (4, 0)) (pcN := 1864) jI_379_1863 rfl rfl rfl ?_
  refine jT_xaload_n (v := (6, 0)) (pcN := 1865) jI_379_1864 rfl rfl rfl ?_
  refine jT_xiload (v := (0, 0)) (pcN := 1867) jI_379_1865 rfl rfl rfl ?_
  refine jT_xiconst (k := 1) (pcN := 1868) jI_379_1867 rfl ?_
  refine jT_xiadd (x := 0) (y := 1) (z := 1) (pcN := 1869) jI_379_1868 rfl (by decide) rfl ?_
  refine jT_adv 1 (pcN := 1870) (LN := [(5, (0, 0)), (4, (4, 3)), (3, (4, 2)), (2, (4, 1)), (1, (4, 0)), (0, (6, 0))]) (stN := [(0, x1), (4, 0)]) (hsN := jpA_4078) (c1 := 0) (s1 := 0) (c2 := 6) (s2 := 186) (by exact rfl) ?_ (by omega) (by omega)
  refine jT_xaload_n (v := (6, 0)) (pcN := 1871) jI_379_1870 rfl rfl rfl ?_
  refine jT_xiload (v := (0, 0)) (pcN := 1873) jI_379_1871 rfl rfl rfl ?_
  refine jT_xiconst (k := 2) (pcN := 1874) jI_379_1873 rfl ?_
  refine jT_xiadd (x := 0) (y := 2) (z := 2) (pcN := 1875) jI_379_1874 rfl (by decide) rfl ?_
  refine jT_adv 1 (pcN := 1876) (LN := [(5, (0, 0)), (4, (4, 3)), (3, (4, 2)), (2, (4, 1)), (1, (4, 0)), (0, (6, 0))]) (stN := [(0, x2), (0, x1), (4, 0)]) (hsN := jpA_4078) (c1 := 0) (s1 := 0) (c2 := 6) (s2 := 186) (by exact rfl) ?_ (by omega) (by omega)
  refine jT_eq (LN := [(5, (0, 0)), (4, (4, 3)), (3, (4, 2)), (2, (4, 1)), (1, (4, 0)), (0, (6, 0))]) (stN := [(0, 5), (0, x1), (4, 0)]) (hsN := [jzA_265, jzA_266, (101, [], [0]), jgh, (8, [(4, 30), (4, 31)], []), jgh, jgh, jgh, jgh, jgh, jgh, jgh, jgh, jgh, jzA_721, (100, [], jS0), jgh, jgh, jgh, jgh, (130, [], [37, 38, 39, 40, 41, 42]), (101, [], [0, 0, 0, 0, 0, 0]), jgh, jgh, jgh, jgh, jgh, jgh, jgh, jgh, jgh, jgh, jzA_324, jgh, jgh, jgh, jgh, (100, [], (jenc (jlg 0))), jgh, jgh, jgh, jgh, jgh, (4, [(4, 44), (1, 1)], []), (101, [], [0, 0, 0, 0, 0, 0])]) (rfl) (by simp only [List.cons.injEq, Prod.mk.injEq, and_true, true_and] <;> ((try unfold jw); (try unfold jwl); omega)) (rfl) ?_
  refine jT_xaload_n (v := (6, 0)) (pcN := 1877) jI_379_1876 rfl rfl rfl ?_
  refine jT_xiload (v := (0, 0)) (pcN := 1879) jI_379_1877 rfl rfl rfl ?_
  refine jT_xiconst (k := 3) (pcN := 1880) jI_379_1879 rfl ?_
  refine jT_xiadd (x := 0) (y := 3) (z := 3) (pcN := 1881) jI_379_1880 rfl (by decide) rfl ?_
  refine jT_adv 1 (pcN := 1882) (LN := [(5, (0, 0)), (4, (4, 3)), (3, (4, 2)), (2, (4, 1)), (1, (4, 0)), (0, (6, 0))]) (stN := [(0, x3), (0, 5), (0, x1), (4, 0)]) (hsN := jpA_4078) (c1 := 0) (s1 := 0) (c2 := 6) (s2 := 186) (by exact rfl) ?_ (by omega) (by omega)
  refine jT_eq (LN := [(5, (0, 0)), (4, (4, 3)), (3, (4, 2)), (2, (4, 1)), (1, (4, 0)), (0, (6, 0))]) (stN := [(0, 0), (0, 5), (0, x1), (4, 0)]) (hsN := [jzA_265, jzA_266, (101, [], [0]), jgh, (8, [(4, 30), (4, 31)], []), jgh, jgh, jgh, jgh, jgh, jgh, jgh, jgh, jgh, jzA_721, (100, [], jS0), jgh, jgh, jgh, jgh, (130, [], [37, 38, 39, 40, 41, 42]), (101, [], [0, 0, 0, 0, 0, 0]), jgh, jgh, jgh, jgh, jgh, jgh, jgh, jgh, jgh, jgh, jzA_324, jgh, jgh, jgh, jgh, (100, [], (jenc (jlg 0))), jgh, jgh, jgh, jgh, jgh, (4, [(4, 44), (1, 1)], []), (101, [], [0, 0, 0, 0, 0, 0])]) (rfl) (by simp only [List.cons.injEq, Prod.mk.injEq, and_true, true_and] <;> ((try unfold jw); (try unfold jwl); omega)) (rfl) ?_
  refine jT_xaload_n (v := (4, 2)) (pcN := 1883) jI_379_1882 rfl rfl rfl ?_
  refine jT_fR [0, 2, 4, 5, 6, 7, 8, 9, 10, 11, 12, 13, 14, 30, 31, 32, 33, 34, 35, 36, 43, 44] 45 (y := 347) (pcN := 1886) (dC := 5) (bc1 := 0) (bc2 := 0) (c1 := 6) (c2 := 186) (as := [(4, 0), (0, x1), (0, 5), (0, 0), (4, 2)]) (asC := [(4, 0), (0, x1), (0, 5), (0, 0), (4, 1)]) (LN := [(5, (0, 0)), (4, (4, 3)), (3, (4, 2)), (2, (4, 1)), (1, (4, 0)), (0, (6, 0))]) (stN := []) (hsC := jpA_4038) (v := (0, 0)) (st2 := [(0, 0)]) (jA_347_1413 (d := 0) (by omega)) (by rfl) (by rfl) (by decide +kernel) (by rfl) (by rfl) (by omega) (by omega) (by omega) (by omega) rfl ?_
  refine jT_xistore (v := (0, 0)) (LN := [(6, (0, 0)), (5, (0, 0)), (4, (4, 3)), (3, (4, 2)), (2, (4, 1)), (1, (4, 0)), (0, (6, 0))]) (pcN := 1888) jI_379_1886 rfl rfl rfl rfl ?_
  refine jT_xaload_n (v := (4, 1)) (pcN := 1889) jI_379_1888 rfl rfl rfl ?_
  refine jT_xaload_n (v := (6, 0)) (pcN := 1890) jI_379_1889 rfl rfl rfl ?_
  refine jT_xiload (v := (0, 0)) (pcN := 1892) jI_379_1890 rfl rfl rfl ?_
  refine jT_xiconst (k := 1) (pcN := 1893) jI_379_1892 rfl ?_
  refine jT_xiadd (x := 0) (y := 1) (z := 1) (pcN := 1894) jI_379_1893 rfl (by decide) rfl ?_
  refine jT_adv 1 (pcN := 1895) (LN := [(6, (0, 0)), (5, (0, 0)), (4, (4, 3)), (3, (4, 2)), (2, (4, 1)), (1, (4, 0)), (0, (6, 0))]) (stN := [(0, x1), (4, 1)]) (hsN := jpA_4078) (c1 := 0) (s1 := 0) (c2 := 6) (s2 := 186) (by exact rfl) ?_ (by omega) (by omega)
  refine jT_xaload_n (v := (6, 0)) (pcN := 1896) jI_379_1895 rfl rfl rfl ?_
  refine jT_xiload (v := (0, 0)) (pcN := 1898) jI_379_1896 rfl rfl rfl ?_
  refine jT_xiconst (k := 2) (pcN := 1899) jI_379_1898 rfl ?_
  refine jT_xiadd (x := 0) (y := 2) (z := 2) (pcN := 1900) jI_379_1899 rfl (by decide) rfl ?_
  refine jT_adv 1 (pcN := 1901) (LN := [(6, (0, 0)), (5, (0, 0)), (4, (4, 3)), (3, (4, 2)), (2, (4, 1)), (1, (4, 0)), (0, (6, 0))]) (stN := [(0, x2), (0, x1), (4, 1)]) (hsN := jpA_4078) (c1 := 0) (s1 := 0) (c2 := 6) (s2 := 186) (by exact rfl) ?_ (by omega) (by omega)
  refine jT_eq (LN := [(6, (0, 0)), (5, (0, 0)), (4, (4, 3)), (3, (4, 2)), (2, (4, 1)), (1, (4, 0)), (0, (6, 0))]) (stN := [(0, 5), (0, x1), (4, 1)]) (hsN := [jzA_265, jzA_266, (101, [], [0]), jgh, (8, [(4, 30), (4, 31)], []), jgh, jgh, jgh, jgh, jgh, jgh, jgh, jgh, jgh, jzA_721, (100, [], jS0), jgh, jgh, jgh, jgh, (130, [], [37, 38, 39, 40, 41, 42]), (101, [], [0, 0, 0, 0, 0, 0]), jgh, jgh, jgh, jgh, jgh, jgh, jgh, jgh, jgh, jgh, jzA_324, jgh, jgh, jgh, jgh, (100, [], (jenc (jlg 0))), jgh, jgh, jgh, jgh, jgh, (4, [(4, 44), (1, 1)], []), (101, [], [0, 0, 0, 0, 0, 0])]) (rfl) (by simp only [List.cons.injEq, Prod.mk.injEq, and_true, true_and] <;> ((try unfold jw); (try unfold jwl); omega)) (rfl) ?_
  refine jT_xaload_n (v := (6, 0)) (pcN := 1902) jI_379_1901 rfl rfl rfl ?_
  refine jT_xiload (v := (0, 0)) (pcN := 1904) jI_379_1902 rfl rfl rfl ?_
  refine jT_xiconst (k := 3) (pcN := 1905) jI_379_1904 rfl ?_
  refine jT_xiadd (x := 0) (y := 3) (z := 3) (pcN := 1906) jI_379_1905 rfl (by decide) rfl ?_
  refine jT_adv 1 (pcN := 1907) (LN := [(6, (0, 0)), (5, (0, 0)), (4, (4, 3)), (3, (4, 2)), (2, (4, 1)), (1, (4, 0)), (0, (6, 0))]) (stN := [(0, x3), (0, 5), (0, x1), (4, 1)]) (hsN := jpA_4078) (c1 := 0) (s1 := 0) (c2 := 6) (s2 := 186) (by exact rfl) ?_ (by omega) (by omega)
  refine jT_eq (LN := [(6, (0, 0)), (5, (0, 0)), (4, (4, 3)), (3, (4, 2)), (2, (4, 1)), (1, (4, 0)), (0, (6, 0))]) (stN := [(0, 0), (0, 5), (0, x1), (4, 1)]) (hsN := [jzA_265, jzA_266, (101, [], [0]), jgh, (8, [(4, 30), (4, 31)], []), jgh, jgh, jgh, jgh, jgh, jgh, jgh, jgh, jgh, jzA_721, (100, [], jS0), jgh, jgh, jgh, jgh, (130, [], [37, 38, 39, 40, 41, 42]), (101, [], [0, 0, 0, 0, 0, 0]), jgh, jgh, jgh, jgh, jgh, jgh, jgh, jgh, jgh, jgh, jzA_324, jgh, jgh, jgh, jgh, (100, [], (jenc (jlg 0))), jgh, jgh, jgh, jgh, jgh, (4, [(4, 44), (1, 1)], []), (101, [], [0, 0, 0, 0, 0, 0])]) (rfl) (by simp only [List.cons.injEq, Prod.mk.injEq, and_true, true_and] <;> ((try unfold jw); (try unfold jwl); omega)) (rfl) ?_
  refine jT_fA [1, 15, 16, 17, 18, 19, 20, 21, 22, 23, 24, 25, 26, 27, 28, 29, 37, 38, 39, 40, 41, 42] 45 (y := 263) (pcN := 1910) (dC := 7) (bc1 := 6) (bc2 := 186) (c1 := 0) (c2 := 0) (as := [(4, 1), (0, x1), (0, 5), (0, 0)]) (asC := [(4, 0), (0, x1), (0, 5), (0, 0)]) (LN := [(6, (0, 0)), (5, (0, 0)), (4, (4, 3)), (3, (4, 2)), (2, (4, 1)), (1, (4, 0)), (0, (6, 0))]) (stN := []) (hsC := jpA_1695) (ex := jpA_4341) (v := (1, 0)) (st2 := [(1, 0)]) (hs2 := jpA_4391) (jA_263_1418 (d := 0) (by omega)) (by rfl) (by rfl) (by decide +kernel) (by rfl) (by rfl) (by omega) (by omega) (by omega) (by omega) rfl (by decide +kernel) ?_
  refine jT_xlstore (v := (1, 0)) (LN := [(7, (1, 0)), (6, (0, 0)), (5, (0, 0)), (4, (4, 3)), (3, (4, 2)), (2, (4, 1)), (1, (4, 0)), (0, (6, 0))]) (pcN := 1912) jI_379_1910 rfl rfl rfl rfl ?_
  refine jT_xaload_n (v := (4, 1)) (pcN := 1913) jI_379_1912 rfl rfl rfl ?_
  refine jT_fR [1, 15, 16, 17, 18, 19, 20, 21, 22, 23, 24, 25, 26, 27, 28, 29] 51 (y := 186) (pcN := 1916) (dC := 0) (bc1 := 0) (bc2 := 0) (c1 := 0) (c2 := 0) (as := [(4, 1)]) (asC := [(4, 0)]) (LN := [(7, (1, 0)), (6, (0, 0)), (5, (0, 0)), (4, (4, 3)), (3, (4, 2)), (2, (4, 1)), (1, (4, 0)), (0, (6, 0))]) (stN := []) (hsC := jpA_22) (v := (0, 0)) (st2 := [(0, 0)]) (jA_186_726 (d := 0)) (by rfl) (by rfl) (by decide +kernel) (by rfl) (by rfl) (by omega) (by omega) (by omega) (by omega) rfl ?_
  refine jT_xiload (v := (0, 0)) (pcN := 1918) jI_379_1916 rfl rfl rfl ?_
  refine jT_xicT (pcN := 1923) jI_379_1918 rfl (by decide +kernel) rfl ?_
  refine jT_xiload (v := (0, 0)) (pcN := 1925) jI_379_1923 rfl rfl rfl ?_
  refine jT_xifF (t := 1939) (pcN := 1928) jI_379_1925 rfl (by decide +kernel) rfl rfl ?_
  refine jT_xaload_n (v := (4, 2)) (pcN := 1929) jI_379_1928 rfl rfl rfl ?_
  refine jT_xiconst (k := 0) (pcN := 1930) jI_379_1929 rfl ?_
  refine jT_lald (x := 0) (a := 2) (j := 0) (fs := []) (X := [0]) jI_379_1930 rfl rfl rfl rfl ?_
  refine jT_eq (LN := [(7, (1, 0)), (6, (0, 0)), (5, (0, 0)), (4, (4, 3)), (3, (4, 2)), (2, (4, 1)), (1, (4, 0)), (0, (6, 0))]) (stN := [(1, 0)]) (hsN := jpA_4391) rfl rfl rfl ?_
  refine jT_xlload (v := (1, 0)) (pcN := 1933) jI_379_1931 rfl rfl rfl ?_
  refine jT_lcmp (a := 0) (b := 0) (z := 0) (by rfl) (by rfl) (by decide +kernel) (by decide +kernel) (by decide) ?_
  refine jT_xifT (pcN := 1939) jI_379_1934 rfl (by decide +kernel) rfl ?_
  refine jT_xgoto (pcN := 3740) jI_379_1939 rfl ?_
  refine jT_xiinc (x := 0) (z := 5) (LN := [(5, (0, 5)), (7, (1, 0)), (6, (0, 0)), (4, (4, 3)), (3, (4, 2)), (2, (4, 1)), (1, (4, 0)), (0, (6, 0))]) (pcN := 3743) jI_379_3740 rfl rfl (by decide) rfl rfl ?_
  refine jT_xgoto (pcN := 28) jI_379_3743 rfl ?_
  refine jT_xiload (v := (0, 5)) (pcN := 30) jI_379_28 rfl rfl rfl ?_
  refine jT_xaload_n (v := (6, 0)) (pcN := 31) jI_379_30 rfl rfl rfl ?_
  refine jT_adv 1 (pcN := 32) (LN := [(5, (0, 5)), (7, (1, 0)), (6, (0, 0)), (4, (4, 3)), (3, (4, 2)), (2, (4, 1)), (1, (4, 0)), (0, (6, 0))]) (stN := [(0, 5), (0, 5)]) (hsN := jpA_4391) (c1 := 0) (s1 := 0) (c2 := 0) (s2 := 0) (by exact rfl) ?_ (by omega) (by omega)
  refine jT_xiconst (k := 5) (pcN := 33) jI_379_32 rfl ?_
  refine jT_xisub (x := 5) (y := 5) (z := 0) (pcN := 34) jI_379_33 rfl (by decide) rfl ?_
  refine jT_xicT (pcN := 3746) jI_379_34 rfl (by decide +kernel) rfl ?_
  refine jT_xiconst (k := 1) (pcN := 3747) jI_379_3746 rfl ?_
  exact jT_ret rfl (by decide) (by show 45 ≤ 51; decide) (by omega) (by omega) ⟨rfl, rfl⟩
set_option maxRecDepth 100000 in
theorem jL_22_19 {d : Nat} {x0 x1 x2 x3 x4 : Int} (h_x0 : (-2147483648) ≤ x0 ∧ x0 ≤ 2147483647) (h_x1 : 0 ≤ x1 ∧ x1 ≤ 7) (h_x2 : 5 ≤ x2 ∧ x2 ≤ 5) (h_x3 : 1 ≤ x3 ∧ x3 ≤ 1) (h_x4 : (-2147483648) ≤ x4 ∧ x4 ≤ 2147483647) : jT [x0, x1, x2, x3, x4] (d + 8) 379 45 1863 [(5, (0, 0)), (4, (4, 3)), (3, (4, 2)), (2, (4, 1)), (1, (4, 0)), (0, (6, 0))] [] jpA_4078 9 200 (fun k v hsN => k = 0 ∧ v = (0, 1)) := by
  refine jT_xaload_n (v := (4, 0)) (pcN := 1864) jI_379_1863 rfl rfl rfl ?_
  refine jT_xaload_n (v := (6, 0)) (pcN := 1865) jI_379_1864 rfl rfl rfl ?_
  refine jT_xiload (v := (0, 0)) (pcN := 1867) jI_379_1865 rfl rfl rfl ?_
  refine jT_xiconst (k := 1) (pcN := 1868) jI_379_1867 rfl ?_
  refine jT_xiadd (x := 0) (y := 1) (z := 1) (pcN := 1869) jI_379_1868 rfl (by decide) rfl ?_
  refine jT_adv 1 (pcN := 1870) (LN := [(5, (0, 0)), (4, (4, 3)), (3, (4, 2)), (2, (4, 1)), (1, (4, 0)), (0, (6, 0))]) (stN := [(0, x1), (4, 0)]) (hsN := jpA_4078) (c1 := 0) (s1 := 0) (c2 := 9) (s2 := 200) (by exact rfl) ?_ (by omega) (by omega)
  refine jT_xaload_n (v := (6, 0)) (pcN := 1871) jI_379_1870 rfl rfl rfl ?_
  refine jT_xiload (v := (0, 0)) (pcN := 1873) jI_379_1871 rfl rfl rfl ?_
  refine jT_xiconst (k := 2) (pcN := 1874) jI_379_1873 rfl ?_
  refine jT_xiadd (x := 0) (y := 2) (z := 2) (pcN := 1875) jI_379_1874 rfl (by decide) rfl ?_
  refine jT_adv 1 (pcN := 1876) (LN := [(5, (0, 0)), (4, (4, 3)), (3, (4, 2)), (2, (4, 1)), (1, (4, 0)), (0, (6, 0))]) (stN := [(0, x2), (0, x1), (4, 0)]) (hsN := jpA_4078) (c1 := 0) (s1 := 0) (c2 := 9) (s2 := 200) (by exact rfl) ?_ (by omega) (by omega)
  refine jT_eq (LN := [(5, (0, 0)), (4, (4, 3)), (3, (4, 2)), (2, (4, 1)), (1, (4, 0)), (0, (6, 0))]) (stN := [(0, 5), (0, x1), (4, 0)]) (hsN := [jzA_265, jzA_266, (101, [], [0]), jgh, (8, [(4, 30), (4, 31)], []), jgh, jgh, jgh, jgh, jgh, jgh, jgh, jgh, jgh, jzA_721, (100, [], jS0), jgh, jgh, jgh, jgh, (130, [], [37, 38, 39, 40, 41, 42]), (101, [], [0, 0, 0, 0, 0, 0]), jgh, jgh, jgh, jgh, jgh, jgh, jgh, jgh, jgh, jgh, jzA_324, jgh, jgh, jgh, jgh, (100, [], (jenc (jlg 0))), jgh, jgh, jgh, jgh, jgh, (4, [(4, 44), (1, 1)], []), (101, [], [0, 0, 0, 0, 0, 0])]) (rfl) (by simp only [List.cons.injEq, Prod.mk.injEq, and_true, true_and] <;> ((try unfold jw); (try unfold jwl); omega)) (rfl) ?_
  refine jT_xaload_n (v := (6, 0)) (pcN := 1877) jI_379_1876 rfl rfl rfl ?_
  refine jT_xiload (v := (0, 0)) (pcN := 1879) jI_379_1877 rfl rfl rfl ?_
  refine jT_xiconst (k := 3) (pcN := 1880) jI_379_1879 rfl ?_
  refine jT_xiadd (x := 0) (y := 3) (z := 3) (pcN := 1881) jI_379_1880 rfl (by decide) rfl ?_
  refine jT_adv 1 (pcN := 1882) (LN := [(5, (0, 0)), (4, (4, 3)), (3, (4, 2)), (2, (4, 1)), (1, (4, 0)), (0, (6, 0))]) (stN := [(0, x3), (0, 5), (0, x1), (4, 0)]) (hsN := jpA_4078) (c1 := 0) (s1 := 0) (c2 := 9) (s2 := 200) (by exact rfl) ?_ (by omega) (by omega)
  refine jT_eq (LN := [(5, (0, 0)), (4, (4, 3)), (3, (4, 2)), (2, (4, 1)), (1, (4, 0)), (0, (6, 0))]) (stN := [(0, 1), (0, 5), (0, x1), (4, 0)]) (hsN := [jzA_265, jzA_266, (101, [], [0]), jgh, (8, [(4, 30), (4, 31)], []), jgh, jgh, jgh, jgh, jgh, jgh, jgh, jgh, jgh, jzA_721, (100, [], jS0), jgh, jgh, jgh, jgh, (130, [], [37, 38, 39, 40, 41, 42]), (101, [], [0, 0, 0, 0, 0, 0]), jgh, jgh, jgh, jgh, jgh, jgh, jgh, jgh, jgh, jgh, jzA_324, jgh, jgh, jgh, jgh, (100, [], (jenc (jlg 0))), jgh, jgh, jgh, jgh, jgh, (4, [(4, 44), (1, 1)], []), (101, [], [0, 0, 0, 0, 0, 0])]) (rfl) (by simp only [List.cons.injEq, Prod.mk.injEq, and_true, true_and] <;> ((try unfold jw); (try unfold jwl); omega)) (rfl) ?_
  refine jT_xaload_n (v := (4, 2)) (pcN := 1883) jI_379_1882 rfl rfl rfl ?_
  refine jT_fA [0, 2, 4, 5, 6, 7, 8, 9, 10, 11, 12, 13, 14, 30, 31, 32, 33, 34, 35, 36, 43, 44] 45 (y := 347) (pcN := 1886) (dC := 5) (bc1 := 2) (bc2 := 8) (c1 := 7) (c2 := 192) (as := [(4, 0), (0, x1), (0, 5), (0, 1), (4, 2)]) (asC := [(4, 0), (0, x1), (0, 5), (0, 1), (4, 1)]) (LN := [(5, (0, 0)), (4, (4, 3)), (3, (4, 2)), (2, (4, 1)), (1, (4, 0)), (0, (6, 0))]) (stN := []) (hsC := jpA_4038) (ex := [(101, [], [0, 0, 0, 0, 0, 0]), (4, [(4, 22), (1, 1)], [])]) (v := (0, 0)) (st2 := [(0, 0)]) (hs2 := jpA_4397) (jA_347_1421 (d := 0) (by omega)) (by rfl) (by rfl) (by decide +kernel) (by rfl) (by rfl) (by omega) (by omega) (by omega) (by omega) rfl (by decide +kernel) ?_
  refine jT_xistore (v := (0, 0)) (LN := [(6, (0, 0)), (5, (0, 0)), (4, (4, 3)), (3, (4, 2)), (2, (4, 1)), (1, (4, 0)), (0, (6, 0))]) (pcN := 1888) jI_379_1886 rfl rfl rfl rfl ?_
  refine jT_xaload_n (v := (4, 1)) (pcN := 1889) jI_379_1888 rfl rfl rfl ?_
  refine jT_xaload_n (v := (6, 0)) (pcN := 1890) jI_379_1889 rfl rfl rfl ?_
  refine jT_xiload (v := (0, 0)) (pcN := 1892) jI_379_1890 rfl rfl rfl ?_
  refine jT_xiconst (k := 1) (pcN := 1893) jI_379_1892 rfl ?_
  refine jT_xiadd (x := 0) (y := 1) (z := 1) (pcN := 1894) jI_379_1893 rfl (by decide) rfl ?_
  refine jT_adv 1 (pcN := 1895) (LN := [(6, (0, 0)), (5, (0, 0)), (4, (4, 3)), (3, (4, 2)), (2, (4, 1)), (1, (4, 0)), (0, (6, 0))]) (stN := [(0, x1), (4, 1)]) (hsN := jpA_4397) (c1 := 0) (s1 := 0) (c2 := 7) (s2 := 192) (by exact rfl) ?_ (by omega) (by omega)
  refine jT_xaload_n (v := (6, 0)) (pcN := 1896) jI_379_1895 rfl rfl rfl ?_
  refine jT_xiload (v := (0, 0)) (pcN := 1898) jI_379_1896 rfl rfl rfl ?_
  refine jT_xiconst (k := 2) (pcN := 1899) jI_379_1898 rfl ?_
  refine jT_xiadd (x := 0) (y := 2) (z := 2) (pcN := 1900) jI_379_1899 rfl (by decide) rfl ?_
  refine jT_adv 1 (pcN := 1901) (LN := [(6, (0, 0)), (5, (0, 0)), (4, (4, 3)), (3, (4, 2)), (2, (4, 1)), (1, (4, 0)), (0, (6, 0))]) (stN := [(0, x2), (0, x1), (4, 1)]) (hsN := jpA_4397) (c1 := 0) (s1 := 0) (c2 := 7) (s2 := 192) (by exact rfl) ?_ (by omega) (by omega)
  refine jT_eq (LN := [(6, (0, 0)), (5, (0, 0)), (4, (4, 3)), (3, (4, 2)), (2, (4, 1)), (1, (4, 0)), (0, (6, 0))]) (stN := [(0, 5), (0, x1), (4, 1)]) (hsN := [jzA_265, jzA_266, (101, [], [0]), jgh, (8, [(4, 30), (4, 31)], []), jgh, jgh, jgh, jgh, jgh, jgh, jgh, jgh, jgh, jzA_721, (100, [], jS0), jgh, jgh, jgh, jgh, (130, [], [37, 38, 39, 40, 41, 42]), (101, [], [0, 0, 0, 0, 0, 0]), jgh, jgh, jgh, jgh, jgh, jgh, jgh, jgh, jgh, jgh, jzA_324, jgh, jgh, jgh, jgh, (100, [], (jenc (jlg 0))), jgh, jgh, jgh, jgh, jgh, (4, [(4, 44), (1, 1)], []), (101, [], [0, 0, 0, 0, 0, 0]), (101, [], [0, 0, 0, 0, 0, 0]), (4, [(4, 45), (1, 1)], [])]) (rfl) (by simp only [List.cons.injEq, Prod.mk.injEq, and_true, true_and] <;> ((try unfold jw); (try unfold jwl); omega)) (rfl) ?_
  refine jT_xaload_n (v := (6, 0)) (pcN := 1902) jI_379_1901 rfl rfl rfl ?_
  refine jT_xiload (v := (0, 0)) (pcN := 1904) jI_379_1902 rfl rfl rfl ?_
  refine jT_xiconst (k := 3) (pcN := 1905) jI_379_1904 rfl ?_
  refine jT_xiadd (x := 0) (y := 3) (z := 3) (pcN := 1906) jI_379_1905 rfl (by decide) rfl ?_
  refine jT_adv 1 (pcN := 1907) (LN := [(6, (0, 0)), (5, (0, 0)), (4, (4, 3)), (3, (4, 2)), (2, (4, 1)), (1, (4, 0)), (0, (6, 0))]) (stN := [(0, x3), (0, 5), (0, x1), (4, 1)]) (hsN := jpA_4397) (c1 := 0) (s1 := 0) (c2 := 7) (s2 := 192) (by exact rfl) ?_ (by omega) (by omega)
  refine jT_eq (LN := [(6, (0, 0)), (5, (0, 0)), (4, (4, 3)), (3, (4, 2)), (2, (4, 1)), (1, (4, 0)), (0, (6, 0))]) (stN := [(0, 1), (0, 5), (0, x1), (4, 1)]) (hsN := [jzA_265, jzA_266, (101, [], [0]), jgh, (8, [(4, 30), (4, 31)], []), jgh, jgh, jgh, jgh, jgh, jgh, jgh, jgh, jgh, jzA_721, (100, [], jS0), jgh, jgh, jgh, jgh, (130, [], [37, 38, 39, 40, 41, 42]), (101, [], [0, 0, 0, 0, 0, 0]), jgh, jgh, jgh, jgh, jgh, jgh, jgh, jgh, jgh, jgh, jzA_324, jgh, jgh, jgh, jgh, (100, [], (jenc (jlg 0))), jgh, jgh, jgh, jgh, jgh, (4, [(4, 44), (1, 1)], []), (101, [], [0, 0, 0, 0, 0, 0]), (101, [], [0, 0, 0, 0, 0, 0]), (4, [(4, 45), (1, 1)], [])]) (rfl) (by simp only [List.cons.injEq, Prod.mk.injEq, and_true, true_and] <;> ((try unfold jw); (try unfold jwl); omega)) (rfl) ?_
  refine jT_fA [1, 15, 16, 17, 18, 19, 20, 21, 22, 23, 24, 25, 26, 27, 28, 29, 37, 38, 39, 40, 41, 42] 47 (y := 263) (pcN := 1910) (dC := 7) (bc1 := 7) (bc2 := 192) (c1 := 0) (c2 := 0) (as := [(4, 1), (0, x1), (0, 5), (0, 1)]) (asC := [(4, 0), (0, x1), (0, 5), (0, 1)]) (LN := [(6, (0, 0)), (5, (0, 0)), (4, (4, 3)), (3, (4, 2)), (2, (4, 1)), (1, (4, 0)), (0, (6, 0))]) (stN := []) (hsC := jpA_1695) (ex := jpA_4354) (v := (1, 0)) (st2 := [(1, 0)]) (hs2 := jpA_4398) (jA_263_1423 (d := 0) (by omega)) (by rfl) (by rfl) (by decide +kernel) (by rfl) (by rfl) (by omega) (by omega) (by omega) (by omega) rfl (by decide +kernel) ?_
  refine jT_xlstore (v := (1, 0)) (LN := [(7, (1, 0)), (6, (0, 0)), (5, (0, 0)), (4, (4, 3)), (3, (4, 2)), (2, (4, 1)), (1, (4, 0)), (0, (6, 0))]) (pcN := 1912) jI_379_1910 rfl rfl rfl rfl ?_
  refine jT_xaload_n (v := (4, 1)) (pcN := 1913) jI_379_1912 rfl rfl rfl ?_
  refine jT_fR [1, 15, 16, 17, 18, 19, 20, 21, 22, 23, 24, 25, 26, 27, 28, 29] 54 (y := 186) (pcN := 1916) (dC := 0) (bc1 := 0) (bc2 := 0) (c1 := 0) (c2 := 0) (as := [(4, 1)]) (asC := [(4, 0)]) (LN := [(7, (1, 0)), (6, (0, 0)), (5, (0, 0)), (4, (4, 3)), (3, (4, 2)), (2, (4, 1)), (1, (4, 0)), (0, (6, 0))]) (stN := []) (hsC := jpA_22) (v := (0, 0)) (st2 := [(0, 0)]) (jA_186_726 (d := 0)) (by rfl) (by rfl) (by decide +kernel) (by rfl) (by rfl) (by omega) (by omega) (by omega) (by omega) rfl ?_
  refine jT_xiload (v := (0, 0)) (pcN := 1918) jI_379_1916 rfl rfl rfl ?_
  refine jT_xicT (pcN := 1923) jI_379_1918 rfl (by decide +kernel) rfl ?_
  refine jT_xiload (v := (0, 0)) (pcN := 1925) jI_379_1923 rfl rfl rfl ?_
  refine jT_xifF (t := 1939) (pcN := 1928) jI_379_1925 rfl (by decide +kernel) rfl rfl ?_
  refine jT_xaload_n (v := (4, 2)) (pcN := 1929) jI_379_1928 rfl rfl rfl ?_
  refine jT_xiconst (k := 0) (pcN := 1930) jI_379_1929 rfl ?_
  refine jT_lald (x := 0) (a := 2) (j := 0) (fs := []) (X := [0]) jI_379_1930 rfl rfl rfl rfl ?_
  refine jT_eq (LN := [(7, (1, 0)), (6, (0, 0)), (5, (0, 0)), (4, (4, 3)), (3, (4, 2)), (2, (4, 1)), (1, (4, 0)), (0, (6, 0))]) (stN := [(1, 0)]) (hsN := jpA_4398) rfl rfl rfl ?_
  refine jT_xlload (v := (1, 0)) (pcN := 1933) jI_379_1931 rfl rfl rfl ?_
  refine jT_lcmp (a := 0) (b := 0) (z := 0) (by rfl) (by rfl) (by decide +kernel) (by decide +kernel) (by decide) ?_
  refine jT_xifT (pcN := 1939) jI_379_1934 rfl (by decide +kernel) rfl ?_
  refine jT_xgoto (pcN := 3740) jI_379_1939 rfl ?_
  refine jT_xiinc (x := 0) (z := 5) (LN := [(5, (0, 5)), (7, (1, 0)), (6, (0, 0)), (4, (4, 3)), (3, (4, 2)), (2, (4, 1)), (1, (4, 0)), (0, (6, 0))]) (pcN := 3743) jI_379_3740 rfl rfl (by decide) rfl rfl ?_
  refine jT_xgoto (pcN := 28) jI_379_3743 rfl ?_
  refine jT_xiload (v := (0, 5)) (pcN := 30) jI_379_28 rfl rfl rfl ?_
  refine jT_xaload_n (v := (6, 0)) (pcN := 31) jI_379_30 rfl rfl rfl ?_
  refine jT_adv 1 (pcN := 32) (LN := [(5, (0, 5)), (7, (1, 0)), (6, (0, 0)), (4, (4, 3)), (3, (4, 2)), (2, (4, 1)), (1, (4, 0)), (0, (6, 0))]) (stN := [(0, 5), (0, 5)]) (hsN := jpA_4398) (c1 := 0) (s1 := 0) (c2 := 0) (s2 := 0) (by exact rfl) ?_ (by omega) (by omega)
  refine jT_xiconst (k := 5) (pcN := 33) jI_379_32 rfl ?_
  refine jT_xisub (x := 5) (y := 5) (z := 0) (pcN := 34) jI_379_33 rfl (by decide) rfl ?_
  refine jT_xicT (pcN := 3746) jI_379_34 rfl (by decide +kernel) rfl ?_
  refine jT_xiconst (k := 1) (pcN := 3747) jI_379_3746 rfl ?_
  exact jT_ret rfl (by decide) (by show 45 ≤ 54; decide) (by omega) (by omega) ⟨rfl, rfl⟩
set_option maxRecDepth 100000 in
theorem jL_22_20 {d : Nat} {x0 x1 x2 x3 x4 : Int} (h_x0 : (-2147483648) ≤ x0 ∧ x0 ≤ 2147483647) (h_x1 : 0 ≤ x1 ∧ x1 ≤ 7) (h_x2 : 5 ≤ x2 ∧ x2 ≤ 5) (h_x3 : 2 ≤ x3 ∧ x3 ≤ 2) (h_x4 : (-2147483648) ≤ x4 ∧ x4 ≤ 2147483647) : jT [x0, x1, x2, x3, x4] (d + 9) 379 45 1863 [(5, (0, 0)), (4, (4, 3)), (3, (4, 2)), (2, (4, 1)), (1, (4, 0)), (0, (6, 0))] [] jpA_4078 10 360 (fun k v hsN => k = 0 ∧ v = (0, 1)) := by
  refine jT_xaload_n (v := (4, 0)) (pcN := 1864) jI_379_1863 rfl rfl rfl ?_
  refine jT_xaload_n (v := (6, 0)) (pcN := 1865) jI_379_1864 rfl rfl rfl ?_
  refine jT_xiload (v := (0, 0)) (pcN := 1867) jI_379_1865 rfl rfl rfl ?_
  refine jT_xiconst (k := 1) (pcN := 1868) jI_379_1867 rfl ?_
  refine jT_xiadd (x := 0) (y := 1) (z := 1) (pcN := 1869) jI_379_1868 rfl (by decide) rfl ?_
  refine jT_adv 1 (pcN := 1870) (LN := [(5, (0, 0)), (4, (4, 3)), (3, (4, 2)), (2, (4, 1)), (1, (4, 0)), (0, (6, 0))]) (stN := [(0, x1), (4, 0)]) (hsN := jpA_4078) (c1 := 0) (s1 := 0) (c2 := 10) (s2 := 360) (by exact rfl) ?_ (by omega) (by omega)
  refine jT_xaload_n (v := (6, 0)) (pcN := 1871) jI_379_1870 rfl rfl rfl ?_
  refine jT_xiload (v := (0, 0)) (pcN := 1873) jI_379_1871 rfl rfl rfl ?_
  refine jT_xiconst (k := 2) (pcN := 1874) jI_379_1873 rfl ?_
  refine jT_xiadd (x := 0) (y := 2) (z := 2) (pcN := 1875) jI_379_1874 rfl (by decide) rfl ?_
  refine jT_adv 1 (pcN := 1876) (LN := [(5, (0, 0)), (4, (4, 3)), (3, (4, 2)), (2, (4, 1)), (1, (4, 0)), (0, (6, 0))]) (stN := [(0, x2), (0, x1), (4, 0)]) (hsN := jpA_4078) (c1 := 0) (s1 := 0) (c2 := 10) (s2 := 360) (by exact rfl) ?_ (by omega) (by omega)
  refine jT_eq (LN := [(5, (0, 0)), (4, (4, 3)), (3, (4, 2)), (2, (4, 1)), (1, (4, 0)), (0, (6, 0))]) (stN := [(0, 5), (0, x1), (4, 0)]) (hsN := [jzA_265, jzA_266, (101, [], [0]), jgh, (8, [(4, 30), (4, 31)], []), jgh, jgh, jgh, jgh, jgh, jgh, jgh, jgh, jgh, jzA_721, (100, [], jS0), jgh, jgh, jgh, jgh, (130, [], [37, 38, 39, 40, 41, 42]), (101, [], [0, 0, 0, 0, 0, 0]), jgh, jgh, jgh, jgh, jgh, jgh, jgh, jgh, jgh, jgh, jzA_324, jgh, jgh, jgh, jgh, (100, [], (jenc (jlg 0))), jgh, jgh, jgh, jgh, jgh, (4, [(4, 44), (1, 1)], []), (101, [], [0, 0, 0, 0, 0, 0])]) (rfl) (by simp only [List.cons.injEq, Prod.mk.injEq, and_true, true_and] <;> ((try unfold jw); (try unfold jwl); omega)) (rfl) ?_
  refine jT_xaload_n (v := (6, 0)) (pcN := 1877) jI_379_1876 rfl rfl rfl ?_
  refine jT_xiload (v := (0, 0)) (pcN := 1879) jI_379_1877 rfl rfl rfl ?_
  refine jT_xiconst (k := 3) (pcN := 1880) jI_379_1879 rfl ?_
  refine jT_xiadd (x := 0) (y := 3) (z := 3) (pcN := 1881) jI_379_1880 rfl (by decide) rfl ?_
  refine jT_adv 1 (pcN := 1882) (LN := [(5, (0, 0)), (4, (4, 3)), (3, (4, 2)), (2, (4, 1)), (1, (4, 0)), (0, (6, 0))]) (stN := [(0, x3), (0, 5), (0, x1), (4, 0)]) (hsN := jpA_4078) (c1 := 0) (s1 := 0) (c2 := 10) (s2 := 360) (by exact rfl) ?_ (by omega) (by omega)
  refine jT_eq (LN := [(5, (0, 0)), (4, (4, 3)), (3, (4, 2)), (2, (4, 1)), (1, (4, 0)), (0, (6, 0))]) (stN := [(0, 2), (0, 5), (0, x1), (4, 0)]) (hsN := [jzA_265, jzA_266, (101, [], [0]), jgh, (8, [(4, 30), (4, 31)], []), jgh, jgh, jgh, jgh, jgh, jgh, jgh, jgh, jgh, jzA_721, (100, [], jS0), jgh, jgh, jgh, jgh, (130, [], [37, 38, 39, 40, 41, 42]), (101, [], [0, 0, 0, 0, 0, 0]), jgh, jgh, jgh, jgh, jgh, jgh, jgh, jgh, jgh, jgh, jzA_324, jgh, jgh, jgh, jgh, (100, [], (jenc (jlg 0))), jgh, jgh, jgh, jgh, jgh, (4, [(4, 44), (1, 1)], []), (101, [], [0, 0, 0, 0, 0, 0])]) (rfl) (by simp only [List.cons.injEq, Prod.mk.injEq, and_true, true_and] <;> ((try unfold jw); (try unfold jwl); omega)) (rfl) ?_
  refine jT_xaload_n (v := (4, 2)) (pcN := 1883) jI_379_1882 rfl rfl rfl ?_
  refine jT_fR [0, 2, 4, 5, 6, 7, 8, 9, 10, 11, 12, 13, 14, 30, 31, 32, 33, 34, 35, 36, 43, 44] 45 (y := 347) (pcN := 1886) (dC := 6) (bc1 := 0) (bc2 := 0) (c1 := 10) (c2 := 360) (as := [(4, 0), (0, x1), (0, 5), (0, 2), (4, 2)]) (asC := [(4, 0), (0, x1), (0, 5), (0, 2), (4, 1)]) (LN := [(5, (0, 0)), (4, (4, 3)), (3, (4, 2)), (2, (4, 1)), (1, (4, 0)), (0, (6, 0))]) (stN := []) (hsC := jpA_4038) (v := (0, 0)) (st2 := [(0, 0)]) (jA_347_1429 (d := 0) (by omega)) (by rfl) (by rfl) (by decide +kernel) (by rfl) (by rfl) (by omega) (by omega) (by omega) (by omega) rfl ?_
  refine jT_xistore (v := (0, 0)) (LN := [(6, (0, 0)), (5, (0, 0)), (4, (4, 3)), (3, (4, 2)), (2, (4, 1)), (1, (4, 0)), (0, (6, 0))]) (pcN := 1888) jI_379_1886 rfl rfl rfl rfl ?_
  refine jT_xaload_n (v := (4, 1)) (pcN := 1889) jI_379_1888 rfl rfl rfl ?_
  refine jT_xaload_n (v := (6, 0)) (pcN := 1890) jI_379_1889 rfl rfl rfl ?_
  refine jT_xiload (v := (0, 0)) (pcN := 1892) jI_379_1890 rfl rfl rfl ?_
  refine jT_xiconst (k := 1) (pcN := 1893) jI_379_1892 rfl ?_
  refine jT_xiadd (x := 0) (y := 1) (z := 1) (pcN := 1894) jI_379_1893 rfl (by decide) rfl ?_
  refine jT_adv 1 (pcN := 1895) (LN := [(6, (0, 0)), (5, (0, 0)), (4, (4, 3)), (3, (4, 2)), (2, (4, 1)), (1, (4, 0)), (0, (6, 0))]) (stN := [(0, x1), (4, 1)]) (hsN := jpA_4078) (c1 := 0) (s1 := 0) (c2 := 10) (s2 := 360) (by exact rfl) ?_ (by omega) (by omega)
  refine jT_xaload_n (v := (6, 0)) (pcN := 1896) jI_379_1895 rfl rfl rfl ?_
  refine jT_xiload (v := (0, 0)) (pcN := 1898) jI_379_1896 rfl rfl rfl ?_
  refine jT_xiconst (k := 2) (pcN := 1899) jI_379_1898 rfl ?_
  refine jT_xiadd (x := 0) (y := 2) (z := 2) (pcN := 1900) jI_379_1899 rfl (by decide) rfl ?_
  refine jT_adv 1 (pcN := 1901) (LN := [(6, (0, 0)), (5, (0, 0)), (4, (4, 3)), (3, (4, 2)), (2, (4, 1)), (1, (4, 0)), (0, (6, 0))]) (stN := [(0, x2), (0, x1), (4, 1)]) (hsN := jpA_4078) (c1 := 0) (s1 := 0) (c2 := 10) (s2 := 360) (by exact rfl) ?_ (by omega) (by omega)
  refine jT_eq (LN := [(6, (0, 0)), (5, (0, 0)), (4, (4, 3)), (3, (4, 2)), (2, (4, 1)), (1, (4, 0)), (0, (6, 0))]) (stN := [(0, 5), (0, x1), (4, 1)]) (hsN := [jzA_265, jzA_266, (101, [], [0]), jgh, (8, [(4, 30), (4, 31)], []), jgh, jgh, jgh, jgh, jgh, jgh, jgh, jgh, jgh, jzA_721, (100, [], jS0), jgh, jgh, jgh, jgh, (130, [], [37, 38, 39, 40, 41, 42]), (101, [], [0, 0, 0, 0, 0, 0]), jgh, jgh, jgh, jgh, jgh, jgh, jgh, jgh, jgh, jgh, jzA_324, jgh, jgh, jgh, jgh, (100, [], (jenc (jlg 0))), jgh, jgh, jgh, jgh, jgh, (4, [(4, 44), (1, 1)], []), (101, [], [0, 0, 0, 0, 0, 0])]) (rfl) (by simp only [List.cons.injEq, Prod.mk.injEq, and_true, true_and] <;> ((try unfold jw); (try unfold jwl); omega)) (rfl) ?_
  refine jT_xaload_n (v := (6, 0)) (pcN := 1902) jI_379_1901 rfl rfl rfl ?_
  refine jT_xiload (v := (0, 0)) (pcN := 1904) jI_379_1902 rfl rfl rfl ?_
  refine jT_xiconst (k := 3) (pcN := 1905) jI_379_1904 rfl ?_
  refine jT_xiadd (x := 0) (y := 3) (z := 3) (pcN := 1906) jI_379_1905 rfl (by decide) rfl ?_
  refine jT_adv 1 (pcN := 1907) (LN := [(6, (0, 0)), (5, (0, 0)), (4, (4, 3)), (3, (4, 2)), (2, (4, 1)), (1, (4, 0)), (0, (6, 0))]) (stN := [(0, x3), (0, 5), (0, x1), (4, 1)]) (hsN := jpA_4078) (c1 := 0) (s1 := 0) (c2 := 10) (s2 := 360) (by exact rfl) ?_ (by omega) (by omega)
  refine jT_eq (LN := [(6, (0, 0)), (5, (0, 0)), (4, (4, 3)), (3, (4, 2)), (2, (4, 1)), (1, (4, 0)), (0, (6, 0))]) (stN := [(0, 2), (0, 5), (0, x1), (4, 1)]) (hsN := [jzA_265, jzA_266, (101, [], [0]), jgh, (8, [(4, 30), (4, 31)], []), jgh, jgh, jgh, jgh, jgh, jgh, jgh, jgh, jgh, jzA_721, (100, [], jS0), jgh, jgh, jgh, jgh, (130, [], [37, 38, 39, 40, 41, 42]), (101, [], [0, 0, 0, 0, 0, 0]), jgh, jgh, jgh, jgh, jgh, jgh, jgh, jgh, jgh, jgh, jzA_324, jgh, jgh, jgh, jgh, (100, [], (jenc (jlg 0))), jgh, jgh, jgh, jgh, jgh, (4, [(4, 44), (1, 1)], []), (101, [], [0, 0, 0, 0, 0, 0])]) (rfl) (by simp only [List.cons.injEq, Prod.mk.injEq, and_true, true_and] <;> ((try unfold jw); (try unfold jwl); omega)) (rfl) ?_
  refine jT_fA [1, 15, 16, 17, 18, 19, 20, 21, 22, 23, 24, 25, 26, 27, 28, 29, 37, 38, 39, 40, 41, 42] 45 (y := 263) (pcN := 1910) (dC := 8) (bc1 := 10) (bc2 := 360) (c1 := 0) (c2 := 0) (as := [(4, 1), (0, x1), (0, 5), (0, 2)]) (asC := [(4, 0), (0, x1), (0, 5), (0, 2)]) (LN := [(6, (0, 0)), (5, (0, 0)), (4, (4, 3)), (3, (4, 2)), (2, (4, 1)), (1, (4, 0)), (0, (6, 0))]) (stN := []) (hsC := jpA_1695) (ex := jpA_3654) (v := (1, 0)) (st2 := [(1, 0)]) (hs2 := jpA_4079) (jA_263_1431 (d := 0) (by omega)) (by rfl) (by rfl) (by decide +kernel) (by rfl) (by rfl) (by omega) (by omega) (by omega) (by omega) rfl (by decide +kernel) ?_
  refine jT_xlstore (v := (1, 0)) (LN := [(7, (1, 0)), (6, (0, 0)), (5, (0, 0)), (4, (4, 3)), (3, (4, 2)), (2, (4, 1)), (1, (4, 0)), (0, (6, 0))]) (pcN := 1912) jI_379_1910 rfl rfl rfl rfl ?_
  refine jT_xaload_n (v := (4, 1)) (pcN := 1913) jI_379_1912 rfl rfl rfl ?_
  refine jT_fR [1, 15, 16, 17, 18, 19, 20, 21, 22, 23, 24, 25, 26, 27, 28, 29] 55 (y := 186) (pcN := 1916) (dC := 0) (bc1 := 0) (bc2 := 0) (c1 := 0) (c2 := 0) (as := [(4, 1)]) (asC := [(4, 0)]) (LN := [(7, (1, 0)), (6, (0, 0)), (5, (0, 0)), (4, (4, 3)), (3, (4, 2)), (2, (4, 1)), (1, (4, 0)), (0, (6, 0))]) (stN := []) (hsC := jpA_22) (v := (0, 0)) (st2 := [(0, 0)]) (jA_186_726 (d := 0)) (by rfl) (by rfl) (by decide +kernel) (by rfl) (by rfl) (by omega) (by omega) (by omega) (by omega) rfl ?_
  refine jT_xiload (v := (0, 0)) (pcN := 1918) jI_379_1916 rfl rfl rfl ?_
  refine jT_xicT (pcN := 1923) jI_379_1918 rfl (by decide +kernel) rfl ?_
  refine jT_xiload (v := (0, 0)) (pcN := 1925) jI_379_1923 rfl rfl rfl ?_
  refine jT_xifF (t := 1939) (pcN := 1928) jI_379_1925 rfl (by decide +kernel) rfl rfl ?_
  refine jT_xaload_n (v := (4, 2)) (pcN := 1929) jI_379_1928 rfl rfl rfl ?_
  refine jT_xiconst (k := 0) (pcN := 1930) jI_379_1929 rfl ?_
  refine jT_lald (x := 0) (a := 2) (j := 0) (fs := []) (X := [0]) jI_379_1930 rfl rfl rfl rfl ?_
  refine jT_eq (LN := [(7, (1, 0)), (6, (0, 0)), (5, (0, 0)), (4, (4, 3)), (3, (4, 2)), (2, (4, 1)), (1, (4, 0)), (0, (6, 0))]) (stN := [(1, 0)]) (hsN := jpA_4079) rfl rfl rfl ?_
  refine jT_xlload (v := (1, 0)) (pcN := 1933) jI_379_1931 rfl rfl rfl ?_
  refine jT_lcmp (a := 0) (b := 0) (z := 0) (by rfl) (by rfl) (by decide +kernel) (by decide +kernel) (by decide) ?_
  refine jT_xifT (pcN := 1939) jI_379_1934 rfl (by decide +kernel) rfl ?_
  refine jT_xgoto (pcN := 3740) jI_379_1939 rfl ?_
  refine jT_xiinc (x := 0) (z := 5) (LN := [(5, (0, 5)), (7, (1, 0)), (6, (0, 0)), (4, (4, 3)), (3, (4, 2)), (2, (4, 1)), (1, (4, 0)), (0, (6, 0))]) (pcN := 3743) jI_379_3740 rfl rfl (by decide) rfl rfl ?_
  refine jT_xgoto (pcN := 28) jI_379_3743 rfl ?_
  refine jT_xiload (v := (0, 5)) (pcN := 30) jI_379_28 rfl rfl rfl ?_
  refine jT_xaload_n (v := (6, 0)) (pcN := 31) jI_379_30 rfl rfl rfl ?_
  refine jT_adv 1 (pcN := 32) (LN := [(5, (0, 5)), (7, (1, 0)), (6, (0, 0)), (4, (4, 3)), (3, (4, 2)), (2, (4, 1)), (1, (4, 0)), (0, (6, 0))]) (stN := [(0, 5), (0, 5)]) (hsN := jpA_4079) (c1 := 0) (s1 := 0) (c2 := 0) (s2 := 0) (by exact rfl) ?_ (by omega) (by omega)
  refine jT_xiconst (k := 5) (pcN := 33) jI_379_32 rfl ?_
  refine jT_xisub (x := 5) (y := 5) (z := 0) (pcN := 34) jI_379_33 rfl (by decide) rfl ?_
  refine jT_xicT (pcN := 3746) jI_379_34 rfl (by decide +kernel) rfl ?_
  refine jT_xiconst (k := 1) (pcN := 3747) jI_379_3746 rfl ?_
  exact jT_ret rfl (by decide) (by show 45 ≤ 55; decide) (by omega) (by omega) ⟨rfl, rfl⟩
set_option maxRecDepth 100000 in
theorem jL_22_21 {d : Nat} {x0 x1 x2 x3 x4 : Int} (h_x0 : (-2147483648) ≤ x0 ∧ x0 ≤ 2147483647) (h_x1 : 0 ≤ x1 ∧ x1 ≤ 7) (h_x2 : 6 ≤ x2 ∧ x2 ≤ 6) (h_x3 : 0 ≤ x3 ∧ x3 ≤ 0) (h_x4 : (-2147483648) ≤ x4 ∧ x4 ≤ 2147483647) : jT [x0, x1, x2, x3, x4] (d + 8) 379 45 1863 [(5, (0, 0)), (4, (4, 3)), (3, (4, 2)), (2, (4, 1)), (1, (4, 0)), (0, (6, 0))] [] jpA_4078 6 186 (fun k v hsN => k = 0 ∧ v = (0, 1)) := by
  refine jT_xaload_n (v := (4, 0)) (pcN := 1864) jI_379_1863 rfl rfl rfl ?_
  refine jT_xaload_n (v := (6, 0)) (pcN := 1865) jI_379_1864 rfl rfl rfl ?_
  refine jT_xiload (v := (0, 0)) (pcN := 1867) jI_379_1865 rfl rfl rfl ?_
  refine jT_xiconst (k := 1) (pcN := 1868) jI_379_1867 rfl ?_
  refine jT_xiadd (x := 0) (y := 1) (z := 1) (pcN := 1869) jI_379_1868 rfl (by decide) rfl ?_
  refine jT_adv 1 (pcN := 1870) (LN := [(5, (0, 0)), (4, (4, 3)), (3, (4, 2)), (2, (4, 1)), (1, (4, 0)), (0, (6, 0))]) (stN := [(0, x1), (4, 0)]) (hsN := jpA_4078) (c1 := 0) (s1 := 0) (c2 := 6) (s2 := 186) (by exact rfl) ?_ (by omega) (by omega)
  refine jT_xaload_n (v := (6, 0)) (pcN := 1871) jI_379_1870 rfl rfl rfl ?_
  refine jT_xiload (v := (0, 0)) (pcN := 1873) jI_379_1871 rfl rfl rfl ?_
  refine jT_xiconst (k := 2) (pcN := 1874) jI_379_1873 rfl ?_
  refine jT_xiadd (x := 0) (y := 2) (z := 2) (pcN := 1875) jI_379_1874 rfl (by decide) rfl ?_
  refine jT_adv 1 (pcN := 1876) (LN := [(5, (0, 0)), (4, (4, 3)), (3, (4, 2)), (2, (4, 1)), (1, (4, 0)), (0, (6, 0))]) (stN := [(0, x2), (0, x1), (4, 0)]) (hsN := jpA_4078) (c1 := 0) (s1 := 0) (c2 := 6) (s2 := 186) (by exact rfl) ?_ (by omega) (by omega)
  refine jT_eq (LN := [(5, (0, 0)), (4, (4, 3)), (3, (4, 2)), (2, (4, 1)), (1, (4, 0)), (0, (6, 0))]) (stN := [(0, 6), (0, x1), (4, 0)]) (hsN := [jzA_265, jzA_266, (101, [], [0]), jgh, (8, [(4, 30), (4, 31)], []), jgh, jgh, jgh, jgh, jgh, jgh, jgh, jgh, jgh, jzA_721, (100, [], jS0), jgh, jgh, jgh, jgh, (130, [], [37, 38, 39, 40, 41, 42]), (101, [], [0, 0, 0, 0, 0, 0]), jgh, jgh, jgh, jgh, jgh, jgh, jgh, jgh, jgh, jgh, jzA_324, jgh, jgh, jgh, jgh, (100, [], (jenc (jlg 0))), jgh, jgh, jgh, jgh, jgh, (4, [(4, 44), (1, 1)], []), (101, [], [0, 0, 0, 0, 0, 0])]) (rfl) (by simp only [List.cons.injEq, Prod.mk.injEq, and_true, true_and] <;> ((try unfold jw); (try unfold jwl); omega)) (rfl) ?_
  refine jT_xaload_n (v := (6, 0)) (pcN := 1877) jI_379_1876 rfl rfl rfl ?_
  refine jT_xiload (v := (0, 0)) (pcN := 1879) jI_379_1877 rfl rfl rfl ?_
  refine jT_xiconst (k := 3) (pcN := 1880) jI_379_1879 rfl ?_
  refine jT_xiadd (x := 0) (y := 3) (z := 3) (pcN := 1881) jI_379_1880 rfl (by decide) rfl ?_
  refine jT_adv 1 (pcN := 1882) (LN := [(5, (0, 0)), (4, (4, 3)), (3, (4, 2)), (2, (4, 1)), (1, (4, 0)), (0, (6, 0))]) (stN := [(0, x3), (0, 6), (0, x1), (4, 0)]) (hsN := jpA_4078) (c1 := 0) (s1 := 0) (c2 := 6) (s2 := 186) (by exact rfl) ?_ (by omega) (by omega)
  refine jT_eq (LN := [(5, (0, 0)), (4, (4, 3)), (3, (4, 2)), (2, (4, 1)), (1, (4, 0)), (0, (6, 0))]) (stN := [(0, 0), (0, 6), (0, x1), (4, 0)]) (hsN := [jzA_265, jzA_266, (101, [], [0]), jgh, (8, [(4, 30), (4, 31)], []), jgh, jgh, jgh, jgh, jgh, jgh, jgh, jgh, jgh, jzA_721, (100, [], jS0), jgh, jgh, jgh, jgh, (130, [], [37, 38, 39, 40, 41, 42]), (101, [], [0, 0, 0, 0, 0, 0]), jgh, jgh, jgh, jgh, jgh, jgh, jgh, jgh, jgh, jgh, jzA_324, jgh, jgh, jgh, jgh, (100, [], (jenc (jlg 0))), jgh, jgh, jgh, jgh, jgh, (4, [(4, 44), (1, 1)], []), (101, [], [0, 0, 0, 0, 0, 0])]) (rfl) (by simp only [List.cons.injEq, Prod.mk.injEq, and_true, true_and] <;> ((try unfold jw); (try unfold jwl); omega)) (rfl) ?_
  refine jT_xaload_n (v := (4, 2)) (pcN := 1883) jI_379_1882 rfl rfl rfl ?_
  refine jT_fR [0, 2, 4, 5, 6, 7, 8, 9, 10, 11, 12, 13, 14, 30, 31, 32, 33, 34, 35, 36, 43, 44] 45 (y := 347) (pcN := 1886) (dC := 5) (bc1 := 0) (bc2 := 0) (c1 := 6) (c2 := 186) (as := [(4, 0), (0, x1), (0, 6), (0, 0), (4, 2)]) (asC := [(4, 0), (0, x1), (0, 6), (0, 0), (4, 1)]) (LN := [(5, (0, 0)), (4, (4, 3)), (3, (4, 2)), (2, (4, 1)), (1, (4, 0)), (0, (6, 0))]) (stN := []) (hsC := jpA_4038) (v := (0, 0)) (st2 := [(0, 0)]) (jA_347_1438 (d := 0) (by omega)) (by rfl) (by rfl) (by decide +kernel) (by rfl) (by rfl) (by omega) (by omega) (by omega) (by omega) rfl ?_
  refine jT_xistore (v := (0, 0)) (LN := [(6, (0, 0)), (5, (0, 0)), (4, (4, 3)), (3, (4, 2)), (2, (4, 1)), (1, (4, 0)), (0, (6, 0))]) (pcN := 1888) jI_379_1886 rfl rfl rfl rfl ?_
  refine jT_xaload_n (v := (4, 1)) (pcN := 1889) jI_379_1888 rfl rfl rfl ?_
  refine jT_xaload_n (v := (6, 0)) (pcN := 1890) jI_379_1889 rfl rfl rfl ?_
  refine jT_xiload (v := (0, 0)) (pcN := 1892) jI_379_1890 rfl rfl rfl ?_
  refine jT_xiconst (k := 1) (pcN := 1893) jI_379_1892 rfl ?_
  refine jT_xiadd (x := 0) (y := 1) (z := 1) (pcN := 1894) jI_379_1893 rfl (by decide) rfl ?_
  refine jT_adv 1 (pcN := 1895) (LN := [(6, (0, 0)), (5, (0, 0)), (4, (4, 3)), (3, (4, 2)), (2, (4, 1)), (1, (4, 0)), (0, (6, 0))]) (stN := [(0, x1), (4, 1)]) (hsN := jpA_4078) (c1 := 0) (s1 := 0) (c2 := 6) (s2 := 186) (by exact rfl) ?_ (by omega) (by omega)
  refine jT_xaload_n (v := (6, 0)) (pcN := 1896) jI_379_1895 rfl rfl rfl ?_
  refine jT_xiload (v := (0, 0)) (pcN := 1898) jI_379_1896 rfl rfl rfl ?_
  refine jT_xiconst (k := 2) (pcN := 1899) jI_379_1898 rfl ?_
  refine jT_xiadd (x := 0) (y := 2) (z := 2) (pcN := 1900) jI_379_1899 rfl (by decide) rfl ?_
  refine jT_adv 1 (pcN := 1901) (LN := [(6, (0, 0)), (5, (0, 0)), (4, (4, 3)), (3, (4, 2)), (2, (4, 1)), (1, (4, 0)), (0, (6, 0))]) (stN := [(0, x2), (0, x1), (4, 1)]) (hsN := jpA_4078) (c1 := 0) (s1 := 0) (c2 := 6) (s2 := 186) (by exact rfl) ?_ (by omega) (by omega)
  refine jT_eq (LN := [(6, (0, 0)), (5, (0, 0)), (4, (4, 3)), (3, (4, 2)), (2, (4, 1)), (1, (4, 0)), (0, (6, 0))]) (stN := [(0, 6), (0, x1), (4, 1)]) (hsN := [jzA_265, jzA_266, (101, [], [0]), jgh, (8, [(4, 30), (4, 31)], []), jgh, jgh, jgh, jgh, jgh, jgh, jgh, jgh, jgh, jzA_721, (100, [], jS0), jgh, jgh, jgh, jgh, (130, [], [37, 38, 39, 40, 41, 42]), (101, [], [0, 0, 0, 0, 0, 0]), jgh, jgh, jgh, jgh, jgh, jgh, jgh, jgh, jgh, jgh, jzA_324, jgh, jgh, jgh, jgh, (100, [], (jenc (jlg 0))), jgh, jgh, jgh, jgh, jgh, (4, [(4, 44), (1, 1)], []), (101, [], [0, 0, 0, 0, 0, 0])]) (rfl) (by simp only [List.cons.injEq, Prod.mk.injEq, and_true, true_and] <;> ((try unfold jw); (try unfold jwl); omega)) (rfl) ?_
  refine jT_xaload_n (v := (6, 0)) (pcN := 1902) jI_379_1901 rfl rfl rfl ?_
  refine jT_xiload (v := (0, 0)) (pcN := 1904) jI_379_1902 rfl rfl rfl ?_
  refine jT_xiconst (k := 3) (pcN := 1905) jI_379_1904 rfl ?_
  refine jT_xiadd (x := 0) (y := 3) (z := 3) (pcN := 1906) jI_379_1905 rfl (by decide) rfl ?_
  refine jT_adv 1 (pcN := 1907) (LN := [(6, (0, 0)), (5, (0, 0)), (4, (4, 3)), (3, (4, 2)), (2, (4, 1)), (1, (4, 0)), (0, (6, 0))]) (stN := [(0, x3), (0, 6), (0, x1), (4, 1)]) (hsN := jpA_4078) (c1 := 0) (s1 := 0) (c2 := 6) (s2 := 186) (by exact rfl) ?_ (by omega) (by omega)
  refine jT_eq (LN := [(6, (0, 0)), (5, (0, 0)), (4, (4, 3)), (3, (4, 2)), (2, (4, 1)), (1, (4, 0)), (0, (6, 0))]) (stN := [(0, 0), (0, 6), (0, x1), (4, 1)]) (hsN := [jzA_265, jzA_266, (101, [], [0]), jgh, (8, [(4, 30), (4, 31)], []), jgh, jgh, jgh, jgh, jgh, jgh, jgh, jgh, jgh, jzA_721, (100, [], jS0), jgh, jgh, jgh, jgh, (130, [], [37, 38, 39, 40, 41, 42]), (101, [], [0, 0, 0, 0, 0, 0]), jgh, jgh, jgh, jgh, jgh, jgh, jgh, jgh, jgh, jgh, jzA_324, jgh, jgh, jgh, jgh, (100, [], (jenc (jlg 0))), jgh, jgh, jgh, jgh, jgh, (4, [(4, 44), (1, 1)], []), (101, [], [0, 0, 0, 0, 0, 0])]) (rfl) (by simp only [List.cons.injEq, Prod.mk.injEq, and_true, true_and] <;> ((try unfold jw); (try unfold jwl); omega)) (rfl) ?_
  refine jT_fA [1, 15, 16, 17, 18, 19, 20, 21, 22, 23, 24, 25, 26, 27, 28, 29, 37, 38, 39, 40, 41, 42] 45 (y := 263) (pcN := 1910) (dC := 7) (bc1 := 6) (bc2 := 186) (c1 := 0) (c2 := 0) (as := [(4, 1), (0, x1), (0, 6), (0, 0)]) (asC := [(4, 0), (0, x1), (0, 6), (0, 0)]) (LN := [(6, (0, 0)), (5, (0, 0)), (4, (4, 3)), (3, (4, 2)), (2, (4, 1)), (1, (4, 0)), (0, (6, 0))]) (stN := []) (hsC := jpA_1695) (ex := jpA_4341) (v := (1, 0)) (st2 := [(1, 0)]) (hs2 := jpA_4391) (jA_263_1443 (d := 0) (by omega)) (by rfl) (by rfl) (by decide +kernel) (by rfl) (by rfl) (by omega) (by omega) (by omega) (by omega) rfl (by decide +kernel) ?_
  refine jT_xlstore (v := (1, 0)) (LN := [(7, (1, 0)), (6, (0, 0)), (5, (0, 0)), (4, (4, 3)), (3, (4, 2)), (2, (4, 1)), (1, (4, 0)), (0, (6, 0))]) (pcN := 1912) jI_379_1910 rfl rfl rfl rfl ?_
  refine jT_xaload_n (v := (4, 1)) (pcN := 1913) jI_379_1912 rfl rfl rfl ?_
  refine jT_fR [1, 15, 16, 17, 18, 19, 20, 21, 22, 23, 24, 25, 26, 27, 28, 29] 51 (y := 186) (pcN := 1916) (dC := 0) (bc1 := 0) (bc2 := 0) (c1 := 0) (c2 := 0) (as := [(4, 1)]) (asC := [(4, 0)]) (LN := [(7, (1, 0)), (6, (0, 0)), (5, (0, 0)), (4, (4, 3)), (3, (4, 2)), (2, (4, 1)), (1, (4, 0)), (0, (6, 0))]) (stN := []) (hsC := jpA_22) (v := (0, 0)) (st2 := [(0, 0)]) (jA_186_726 (d := 0)) (by rfl) (by rfl) (by decide +kernel) (by rfl) (by rfl) (by omega) (by omega) (by omega) (by omega) rfl ?_
  refine jT_xiload (v := (0, 0)) (pcN := 1918) jI_379_1916 rfl rfl rfl ?_
  refine jT_xicT (pcN := 1923) jI_379_1918 rfl (by decide +kernel) rfl ?_
  refine jT_xiload (v := (0, 0)) (pcN := 1925) jI_379_1923 rfl rfl rfl ?_
  refine jT_xifF (t := 1939) (pcN := 1928) jI_379_1925 rfl (by decide +kernel) rfl rfl ?_
  refine jT_xaload_n (v := (4, 2)) (pcN := 1929) jI_379_1928 rfl rfl rfl ?_
  refine jT_xiconst (k := 0) (pcN := 1930) jI_379_1929 rfl ?_
  refine jT_lald (x := 0) (a := 2) (j := 0) (fs := []) (X := [0]) jI_379_1930 rfl rfl rfl rfl ?_
  refine jT_eq (LN := [(7, (1, 0)), (6, (0, 0)), (5, (0, 0)), (4, (4, 3)), (3, (4, 2)), (2, (4, 1)), (1, (4, 0)), (0, (6, 0))]) (stN := [(1, 0)]) (hsN := jpA_4391) rfl rfl rfl ?_
  refine jT_xlload (v := (1, 0)) (pcN := 1933) jI_379_1931 rfl rfl rfl ?_
  refine jT_lcmp (a := 0) (b := 0) (z := 0) (by rfl) (by rfl) (by decide +kernel) (by decide +kernel) (by decide) ?_
  refine jT_xifT (pcN := 1939) jI_379_1934 rfl (by decide +kernel) rfl ?_
  refine jT_xgoto (pcN := 3740) jI_379_1939 rfl ?_
  refine jT_xiinc (x := 0) (z := 5) (LN := [(5, (0, 5)), (7, (1, 0)), (6, (0, 0)), (4, (4, 3)), (3, (4, 2)), (2, (4, 1)), (1, (4, 0)), (0, (6, 0))]) (pcN := 3743) jI_379_3740 rfl rfl (by decide) rfl rfl ?_
  refine jT_xgoto (pcN := 28) jI_379_3743 rfl ?_
  refine jT_xiload (v := (0, 5)) (pcN := 30) jI_379_28 rfl rfl rfl ?_
  refine jT_xaload_n (v := (6, 0)) (pcN := 31) jI_379_30 rfl rfl rfl ?_
  refine jT_adv 1 (pcN := 32) (LN := [(5, (0, 5)), (7, (1, 0)), (6, (0, 0)), (4, (4, 3)), (3, (4, 2)), (2, (4, 1)), (1, (4, 0)), (0, (6, 0))]) (stN := [(0, 5), (0, 5)]) (hsN := jpA_4391) (c1 := 0) (s1 := 0) (c2 := 0) (s2 := 0) (by exact rfl) ?_ (by omega) (by omega)
  refine jT_xiconst (k := 5) (pcN := 33) jI_379_32 rfl ?_
  refine jT_xisub (x := 5) (y := 5) (z := 0) (pcN := 34) jI_379_33 rfl (by decide) rfl ?_
  refine jT_xicT (pcN := 3746) jI_379_34 rfl (by decide +kernel) rfl ?_
  refine jT_xiconst (k := 1) (pcN := 3747) jI_379_3746 rfl ?_
  exact jT_ret rfl (by decide) (by show 45 ≤ 51; decide) (by omega) (by omega) ⟨rfl, rfl⟩
set_option maxRecDepth 100000 in
theorem jL_22_22 {d : Nat} {x0 x1 x2 x3 x4 : Int} (h_x0 : (-2147483648) ≤ x0 ∧ x0 ≤ 2147483647) (h_x1 : 0 ≤ x1 ∧ x1 ≤ 7) (h_x2 : 6 ≤ x2 ∧ x2 ≤ 6) (h_x3 : 1 ≤ x3 ∧ x3 ≤ 1) (h_x4 : (-2147483648) ≤ x4 ∧ x4 ≤ 2147483647) : jT [x0, x1, x2, x3, x4] (d + 8) 379 45 1863 [(5, (0, 0)), (4, (4, 3)), (3, (4, 2)), (2, (4, 1)), (1, (4, 0)), (0, (6, 0))] [] jpA_4078 9 200 (fun k v hsN => k = 0 ∧ v = (0, 1)) := by
  refine jT_xaload_n (v := (4, 0)) (pcN := 1864) jI_379_1863 rfl rfl rfl ?_
  refine jT_xaload_n (v := (6, 0)) (pcN := 1865) jI_379_1864 rfl rfl rfl ?_
  refine jT_xiload (v := (0, 0)) (pcN := 1867) jI_379_1865 rfl rfl rfl ?_
  refine jT_xiconst (k := 1) (pcN := 1868) jI_379_1867 rfl ?_
  refine jT_xiadd (x := 0) (y := 1) (z := 1) (pcN := 1869) jI_379_1868 rfl (by decide) rfl ?_
  refine jT_adv 1 (pcN := 1870) (LN := [(5, (0, 0)), (4, (4, 3)), (3, (4, 2)), (2, (4, 1)), (1, (4, 0)), (0, (6, 0))]) (stN := [(0, x1), (4, 0)]) (hsN := jpA_4078) (c1 := 0) (s1 := 0) (c2 := 9) (s2 := 200) (by exact rfl) ?_ (by omega) (by omega)
  refine jT_xaload_n (v := (6, 0)) (pcN := 1871) jI_379_1870 rfl rfl rfl ?_
  refine jT_xiload (v := (0, 0)) (pcN := 1873) jI_379_1871 rfl rfl rfl ?_
  refine jT_xiconst (k := 2) (pcN := 1874) jI_379_1873 rfl ?_
  refine jT_xiadd (x := 0) (y := 2) (z := 2) (pcN := 1875) jI_379_1874 rfl (by decide) rfl ?_
  refine jT_adv 1 (pcN := 1876) (LN := [(5, (0, 0)), (4, (4, 3)), (3, (4, 2)), (2, (4, 1)), (1, (4, 0)), (0, (6, 0))]) (stN := [(0, x2), (0, x1), (4, 0)]) (hsN := jpA_4078) (c1 := 0) (s1 := 0) (c2 := 9) (s2 := 200) (by exact rfl) ?_ (by omega) (by omega)
  refine jT_eq (LN := [(5, (0, 0)), (4, (4, 3)), (3, (4, 2)), (2, (4, 1)), (1, (4, 0)), (0, (6, 0))]) (stN := [(0, 6), (0, x1), (4, 0)]) (hsN := [jzA_265, jzA_266, (101, [], [0]), jgh, (8, [(4, 30), (4, 31)], []), jgh, jgh, jgh, jgh, jgh, jgh, jgh, jgh, jgh, jzA_721, (100, [], jS0), jgh, jgh, jgh, jgh, (130, [], [37, 38, 39, 40, 41, 42]), (101, [], [0, 0, 0, 0, 0, 0]), jgh, jgh, jgh, jgh, jgh, jgh, jgh, jgh, jgh, jgh, jzA_324, jgh, jgh, jgh, jgh, (100, [], (jenc (jlg 0))), jgh, jgh, jgh, jgh, jgh, (4, [(4, 44), (1, 1)], []), (101, [], [0, 0, 0, 0, 0, 0])]) (rfl) (by simp only [List.cons.injEq, Prod.mk.injEq, and_true, true_and] <;> ((try unfold jw); (try unfold jwl); omega)) (rfl) ?_
  refine jT_xaload_n (v := (6, 0)) (pcN := 1877) jI_379_1876 rfl rfl rfl ?_
  refine jT_xiload (v := (0, 0)) (pcN := 1879) jI_379_1877 rfl rfl rfl ?_
  refine jT_xiconst (k := 3) (pcN := 1880) jI_379_1879 rfl ?_
  refine jT_xiadd (x := 0) (y := 3) (z := 3) (pcN := 1881) jI_379_1880 rfl (by decide) rfl ?_
  refine jT_adv 1 (pcN := 1882) (LN := [(5, (0, 0)), (4, (4, 3)), (3, (4, 2)), (2, (4, 1)), (1, (4, 0)), (0, (6, 0))]) (stN := [(0, x3), (0, 6), (0, x1), (4, 0)]) (hsN := jpA_4078) (c1 := 0) (s1 := 0) (c2 := 9) (s2 := 200) (by exact rfl) ?_ (by omega) (by omega)
  refine jT_eq (LN := [(5, (0, 0)), (4, (4, 3)), (3, (4, 2)), (2, (4, 1)), (1, (4, 0)), (0, (6, 0))]) (stN := [(0, 1), (0, 6), (0, x1), (4, 0)]) (hsN := [jzA_265, jzA_266, (101, [], [0]), jgh, (8, [(4, 30), (4, 31)], []), jgh, jgh, jgh, jgh, jgh, jgh, jgh, jgh, jgh, jzA_721, (100, [], jS0), jgh, jgh, jgh, jgh, (130, [], [37, 38, 39, 40, 41, 42]), (101, [], [0, 0, 0, 0, 0, 0]), jgh, jgh, jgh, jgh, jgh, jgh, jgh, jgh, jgh, jgh, jzA_324, jgh, jgh, jgh, jgh, (100, [], (jenc (jlg 0))), jgh, jgh, jgh, jgh, jgh, (4, [(4, 44), (1, 1)], []), (101, [], [0, 0, 0, 0, 0, 0])]) (rfl) (by simp only [List.cons.injEq, Prod.mk.injEq, and_true, true_and] <;> ((try unfold jw); (try unfold jwl); omega)) (rfl) ?_
  refine jT_xaload_n (v := (4, 2)) (pcN := 1883) jI_379_1882 rfl rfl rfl ?_
  refine jT_fA [0, 2, 4, 5, 6, 7, 8, 9, 10, 11, 12, 13, 14, 30, 31, 32, 33, 34, 35, 36, 43, 44] 45 (y := 347) (pcN := 1886) (dC := 5) (bc1 := 2) (bc2 := 8) (c1 := 7) (c2 := 192) (as := [(4, 0), (0, x1), (0, 6), (0, 1), (4, 2)]) (asC := [(4, 0), (0, x1), (0, 6), (0, 1), (4, 1)]) (LN := [(5, (0, 0)), (4, (4, 3)), (3, (4, 2)), (2, (4, 1)), (1, (4, 0)), (0, (6, 0))]) (stN := []) (hsC := jpA_4038) (ex := [(101, [], [0, 0, 0, 0, 0, 0]), (4, [(4, 22), (1, 1)], [])]) (v := (0, 0)) (st2 := [(0, 0)]) (hs2 := jpA_4397) (jA_347_1446 (d := 0) (by omega)) (by rfl) (by rfl) (by decide +kernel) (by rfl) (by rfl) (by omega) (by omega) (by omega) (by omega) rfl (by decide +kernel) ?_
  refine jT_xistore (v := (0, 0)) (LN := [(6, (0, 0)), (5, (0, 0)), (4, (4, 3)), (3, (4, 2)), (2, (4, 1)), (1, (4, 0)), (0, (6, 0))]) (pcN := 1888) jI_379_1886 rfl rfl rfl rfl ?_
  refine jT_xaload_n (v := (4, 1)) (pcN := 1889) jI_379_1888 rfl rfl rfl ?_
  refine jT_xaload_n (v := (6, 0)) (pcN := 1890) jI_379_1889 rfl rfl rfl ?_
  refine jT_xiload (v := (0, 0)) (pcN := 1892) jI_379_1890 rfl rfl rfl ?_
  refine jT_xiconst (k := 1) (pcN := 1893) jI_379_1892 rfl ?_
  refine jT_xiadd (x := 0) (y := 1) (z := 1) (pcN := 1894) jI_379_1893 rfl (by decide) rfl ?_
  refine jT_adv 1 (pcN := 1895) (LN := [(6, (0, 0)), (5, (0, 0)), (4, (4, 3)), (3, (4, 2)), (2, (4, 1)), (1, (4, 0)), (0, (6, 0))]) (stN := [(0, x1), (4, 1)]) (hsN := jpA_4397) (c1 := 0) (s1 := 0) (c2 := 7) (s2 := 192) (by exact rfl) ?_ (by omega) (by omega)
  refine jT_xaload_n (v := (6, 0)) (pcN := 1896) jI_379_1895 rfl rfl rfl ?_
  refine jT_xiload (v := (0, 0)) (pcN := 1898) jI_379_1896 rfl rfl rfl ?_
  refine jT_xiconst (k := 2) (pcN := 1899) jI_379_1898 rfl ?_
  refine jT_xiadd (x := 0) (y := 2) (z := 2) (pcN := 1900) jI_379_1899 rfl (by decide) rfl ?_
  refine jT_adv 1 (pcN := 1901) (LN := [(6, (0, 0)), (5, (0, 0)), (4, (4, 3)), (3, (4, 2)), (2, (4, 1)), (1, (4, 0)), (0, (6, 0))]) (stN := [(0, x2), (0, x1), (4, 1)]) (hsN := jpA_4397) (c1 := 0) (s1 := 0) (c2 := 7) (s2 := 192) (by exact rfl) ?_ (by omega) (by omega)
  refine jT_eq (LN := [(6, (0, 0)), (5, (0, 0)), (4, (4, 3)), (3, (4, 2)), (2, (4, 1)), (1, (4, 0)), (0, (6, 0))]) (stN := [(0, 6), (0, x1), (4, 1)]) (hsN := [jzA_265, jzA_266, (101, [], [0]), jgh, (8, [(4, 30), (4, 31)], []), jgh, jgh, jgh, jgh, jgh, jgh, jgh, jgh, jgh, jzA_721, (100, [], jS0), jgh, jgh, jgh, jgh, (130, [], [37, 38, 39, 40, 41, 42]), (101, [], [0, 0, 0, 0, 0, 0]), jgh, jgh, jgh, jgh, jgh, jgh, jgh, jgh, jgh, jgh, jzA_324, jgh, jgh, jgh, jgh, (100, [], (jenc (jlg 0))), jgh, jgh, jgh, jgh, jgh, (4, [(4, 44), (1, 1)], []), (101, [], [0, 0, 0, 0, 0, 0]), (101, [], [0, 0, 0, 0, 0, 0]), (4, [(4, 45), (1, 1)], [])]) (rfl) (by simp only [List.cons.injEq, Prod.mk.injEq, and_true, true_and] <;> ((try unfold jw); (try unfold jwl); omega)) (rfl) ?_
  refine jT_xaload_n (v := (6, 0)) (pcN := 1902) jI_379_1901 rfl rfl rfl ?_
  refine jT_xiload (v := (0, 0)) (pcN := 1904) jI_379_1902 rfl rfl rfl ?_
  refine jT_xiconst (k := 3) (pcN := 1905) jI_379_1904 rfl ?_
  refine jT_xiadd (x := 0) (y := 3) (z := 3) (pcN := 1906) jI_379_1905 rfl (by decide) rfl ?_
  refine jT_adv 1 (pcN := 1907) (LN := [(6, (0, 0)), (5, (0, 0)), (4, (4, 3)), (3, (4, 2)), (2, (4, 1)), (1, (4, 0)), (0, (6, 0))]) (stN := [(0, x3), (0, 6), (0, x1), (4, 1)]) (hsN := jpA_4397) (c1 := 0) (s1 := 0) (c2 := 7) (s2 := 192) (by exact rfl) ?_ (by omega) (by omega)
  refine jT_eq (LN := [(6, (0, 0)), (5, (0, 0)), (4, (4, 3)), (3, (4, 2)), (2, (4, 1)), (1, (4, 0)), (0, (6, 0))]) (stN := [(0, 1), (0, 6), (0, x1), (4, 1)]) (hsN := [jzA_265, jzA_266, (101, [], [0]), jgh, (8, [(4, 30), (4, 31)], []), jgh, jgh, jgh, jgh, jgh, jgh, jgh, jgh, jgh, jzA_721, (100, [], jS0), jgh, jgh, jgh, jgh, (130, [], [37, 38, 39, 40, 41, 42]), (101, [], [0, 0, 0, 0, 0, 0]), jgh, jgh, jgh, jgh, jgh, jgh, jgh, jgh, jgh, jgh, jzA_324, jgh, jgh, jgh, jgh, (100, [], (jenc (jlg 0))), jgh, jgh, jgh, jgh, jgh, (4, [(4, 44), (1, 1)], []), (101, [], [0, 0, 0, 0, 0, 0]), (101, [], [0, 0, 0, 0, 0, 0]), (4, [(4, 45), (1, 1)], [])]) (rfl) (by simp only [List.cons.injEq, Prod.mk.injEq, and_true, true_and] <;> ((try unfold jw); (try unfold jwl); omega)) (rfl) ?_
  refine jT_fA [1, 15, 16, 17, 18, 19, 20, 21, 22, 23, 24, 25, 26, 27, 28, 29, 37, 38, 39, 40, 41, 42] 47 (y := 263) (pcN := 1910) (dC := 7) (bc1 := 7) (bc2 := 192) (c1 := 0) (c2 := 0) (as := [(4, 1), (0, x1), (0, 6), (0, 1)]) (asC := [(4, 0), (0, x1), (0, 6), (0, 1)]) (LN := [(6, (0, 0)), (5, (0, 0)), (4, (4, 3)), (3, (4, 2)), (2, (4, 1)), (1, (4, 0)), (0, (6, 0))]) (stN := []) (hsC := jpA_1695) (ex := jpA_4354) (v := (1, 0)) (st2 := [(1, 0)]) (hs2 := jpA_4398) (jA_263_1448 (d := 0) (by omega)) (by rfl) (by rfl) (by decide +kernel) (by rfl) (by rfl) (by omega) (by omega) (by omega) (by omega) rfl (by decide +kernel) ?_
  refine jT_xlstore (v := (1, 0)) (LN := [(7, (1, 0)), (6, (0, 0)), (5, (0, 0)), (4, (4, 3)), (3, (4, 2)), (2, (4, 1)), (1, (4, 0)), (0, (6, 0))]) (pcN := 1912) jI_379_1910 rfl rfl rfl rfl ?_
  refine jT_xaload_n (v := (4, 1)) (pcN := 1913) jI_379_1912 rfl rfl rfl ?_
  refine jT_fR [1, 15, 16, 17, 18, 19, 20, 21, 22, 23, 24, 25, 26, 27, 28, 29] 54 (y := 186) (pcN := 1916) (dC := 0) (bc1 := 0) (bc2 := 0) (c1 := 0) (c2 := 0) (as := [(4, 1)]) (asC := [(4, 0)]) (LN := [(7, (1, 0)), (6, (0, 0)), (5, (0, 0)), (4, (4, 3)), (3, (4, 2)), (2, (4, 1)), (1, (4, 0)), (0, (6, 0))]) (stN := []) (hsC := jpA_22) (v := (0, 0)) (st2 := [(0, 0)]) (jA_186_726 (d := 0)) (by rfl) (by rfl) (by decide +kernel) (by rfl) (by rfl) (by omega) (by omega) (by omega) (by omega) rfl ?_
  refine jT_xiload (v := (0, 0)) (pcN := 1918) jI_379_1916 rfl rfl rfl ?_
  refine jT_xicT (pcN := 1923) jI_379_1918 rfl (by decide +kernel) rfl ?_
  refine jT_xiload (v := (0, 0)) (pcN := 1925) jI_379_1923 rfl rfl rfl ?_
  refine jT_xifF (t := 1939) (pcN := 1928) jI_379_1925 rfl (by decide +kernel) rfl rfl ?_
  refine jT_xaload_n (v := (4, 2)) (pcN := 1929) jI_379_1928 rfl rfl rfl ?_
  refine jT_xiconst (k := 0) (pcN := 1930) jI_379_1929 rfl ?_
  refine jT_lald (x := 0) (a := 2) (j := 0) (fs := []) (X := [0]) jI_379_1930 rfl rfl rfl rfl ?_
  refine jT_eq (LN := [(7, (1, 0)), (6, (0, 0)), (5, (0, 0)), (4, (4, 3)), (3, (4, 2)), (2, (4, 1)), (1, (4, 0)), (0, (6, 0))]) (stN := [(1, 0)]) (hsN := jpA_4398) rfl rfl rfl ?_
  refine jT_xlload (v := (1, 0)) (pcN := 1933) jI_379_1931 rfl rfl rfl ?_
  refine jT_lcmp (a := 0) (b := 0) (z := 0) (by rfl) (by rfl) (by decide +kernel) (by decide +kernel) (by decide) ?_
  refine jT_xifT (pcN := 1939) jI_379_1934 rfl (by decide +kernel) rfl ?_
  refine jT_xgoto (pcN := 3740) jI_379_1939 rfl ?_
  refine jT_xiinc (x := 0) (z := 5) (LN := [(5, (0, 5)), (7, (1, 0)), (6, (0, 0)), (4, (4, 3)), (3, (4, 2)), (2, (4, 1)), (1, (4, 0)), (0, (6, 0))]) (pcN := 3743) jI_379_3740 rfl rfl (by decide) rfl rfl ?_
  refine jT_xgoto (pcN := 28) jI_379_3743 rfl ?_
  refine jT_xiload (v := (0, 5)) (pcN := 30) jI_379_28 rfl rfl rfl ?_
  refine jT_xaload_n (v := (6, 0)) (pcN := 31) jI_379_30 rfl rfl rfl ?_
  refine jT_adv 1 (pcN := 32) (LN := [(5, (0, 5)), (7, (1, 0)), (6, (0, 0)), (4, (4, 3)), (3, (4, 2)), (2, (4, 1)), (1, (4, 0)), (0, (6, 0))]) (stN := [(0, 5), (0, 5)]) (hsN := jpA_4398) (c1 := 0) (s1 := 0) (c2 := 0) (s2 := 0) (by exact rfl) ?_ (by omega) (by omega)
  refine jT_xiconst (k := 5) (pcN := 33) jI_379_32 rfl ?_
  refine jT_xisub (x := 5) (y := 5) (z := 0) (pcN := 34) jI_379_33 rfl (by decide) rfl ?_
  refine jT_xicT (pcN := 3746) jI_379_34 rfl (by decide +kernel) rfl ?_
  refine jT_xiconst (k := 1) (pcN := 3747) jI_379_3746 rfl ?_
  exact jT_ret rfl (by decide) (by show 45 ≤ 54; decide) (by omega) (by omega) ⟨rfl, rfl⟩
set_option maxRecDepth 100000 in
theorem jL_22_23 {d : Nat} {x0 x1 x2 x3 x4 : Int} (h_x0 : (-2147483648) ≤ x0 ∧ x0 ≤ 2147483647) (h_x1 : 0 ≤ x1 ∧ x1 ≤ 7) (h_x2 : 6 ≤ x2 ∧ x2 ≤ 6) (h_x3 : 2 ≤ x3 ∧ x3 ≤ 2) (h_x4 : (-2147483648) ≤ x4 ∧ x4 ≤ 2147483647) : jT [x0, x1, x2, x3, x4] (d + 9) 379 45 1863 [(5, (0, 0)), (4, (4, 3)), (3, (4, 2)), (2, (4, 1)), (1, (4, 0)), (0, (6, 0))] [] jpA_4078 10 360 (fun k v hsN => k = 0 ∧ v = (0, 1)) := by
  refine jT_xaload_n (v := (4, 0)) (pcN := 1864) jI_379_1863 rfl rfl rfl ?_
  refine jT_xaload_n (v := (6, 0)) (pcN := 1865) jI_379_1864 rfl rfl rfl ?_
  refine jT_xiload (v := (0, 0)) (pcN := 1867) jI_379_1865 rfl rfl rfl ?_
  refine jT_xiconst (k := 1) (pcN := 1868) jI_379_1867 rfl ?_
  refine jT_xiadd (x := 0) (y := 1) (z := 1) (pcN := 1869) jI_379_1868 rfl (by decide) rfl ?_
  refine jT_adv 1 (pcN := 1870) (LN := [(5, (0, 0)), (4, (4, 3)), (3, (4, 2)), (2, (4, 1)), (1, (4, 0)), (0, (6, 0))]) (stN := [(0, x1), (4, 0)]) (hsN := jpA_4078) (c1 := 0) (s1 := 0) (c2 := 10) (s2 := 360) (by exact rfl) ?_ (by omega) (by omega)
  refine jT_xaload_n (v := (6, 0)) (pcN := 1871) jI_379_1870 rfl rfl rfl ?_
  refine jT_xiload (v := (0, 0)) (pcN := 1873) jI_379_1871 rfl rfl rfl ?_
  refine jT_xiconst (k := 2) (pcN := 1874) jI_379_1873 rfl ?_
  refine jT_xiadd (x := 0) (y := 2) (z := 2) (pcN := 1875) jI_379_1874 rfl (by decide) rfl ?_
  refine jT_adv 1 (pcN := 1876) (LN := [(5, (0, 0)), (4, (4, 3)), (3, (4, 2)), (2, (4, 1)), (1, (4, 0)), (0, (6, 0))]) (stN := [(0, x2), (0, x1), (4, 0)]) (hsN := jpA_4078) (c1 := 0) (s1 := 0) (c2 := 10) (s2 := 360) (by exact rfl) ?_ (by omega) (by omega)
  refine jT_eq (LN := [(5, (0, 0)), (4, (4, 3)), (3, (4, 2)), (2, (4, 1)), (1, (4, 0)), (0, (6, 0))]) (stN := [(0, 6), (0, x1), (4, 0)]) (hsN := [jzA_265, jzA_266, (101, [], [0]), jgh, (8, [(4, 30), (4, 31)], []), jgh, jgh, jgh, jgh, jgh, jgh, jgh, jgh, jgh, jzA_721, (100, [], jS0), jgh, jgh, jgh, jgh, (130, [], [37, 38, 39, 40, 41, 42]), (101, [], [0, 0, 0, 0, 0, 0]), jgh, jgh, jgh, jgh, jgh, jgh, jgh, jgh, jgh, jgh, jzA_324, jgh, jgh, jgh, jgh, (100, [], (jenc (jlg 0))), jgh, jgh, jgh, jgh, jgh, (4, [(4, 44), (1, 1)], []), (101, [], [0, 0, 0, 0, 0, 0])]) (rfl) (by simp only [List.cons.injEq, Prod.mk.injEq, and_true, true_and] <;> ((try unfold jw); (try unfold jwl); omega)) (rfl) ?_
  refine jT_xaload_n (v := (6, 0)) (pcN := 1877) jI_379_1876 rfl rfl rfl ?_
  refine jT_xiload (v := (0, 0)) (pcN := 1879) jI_379_1877 rfl rfl rfl ?_
  refine jT_xiconst (k := 3) (pcN := 1880) jI_379_1879 rfl ?_
  refine jT_xiadd (x := 0) (y := 3) (z := 3) (pcN := 1881) jI_379_1880 rfl (by decide) rfl ?_
  refine jT_adv 1 (pcN := 1882) (LN := [(5, (0, 0)), (4, (4, 3)), (3, (4, 2)), (2, (4, 1)), (1, (4, 0)), (0, (6, 0))]) (stN := [(0, x3), (0, 6), (0, x1), (4, 0)]) (hsN := jpA_4078) (c1 := 0) (s1 := 0) (c2 := 10) (s2 := 360) (by exact rfl) ?_ (by omega) (by omega)
  refine jT_eq (LN := [(5, (0, 0)), (4, (4, 3)), (3, (4, 2)), (2, (4, 1)), (1, (4, 0)), (0, (6, 0))]) (stN := [(0, 2), (0, 6), (0, x1), (4, 0)]) (hsN := [jzA_265, jzA_266, (101, [], [0]), jgh, (8, [(4, 30), (4, 31)], []), jgh, jgh, jgh, jgh, jgh, jgh, jgh, jgh, jgh, jzA_721, (100, [], jS0), jgh, jgh, jgh, jgh, (130, [], [37, 38, 39, 40, 41, 42]), (101, [], [0, 0, 0, 0, 0, 0]), jgh, jgh, jgh, jgh, jgh, jgh, jgh, jgh, jgh, jgh, jzA_324, jgh, jgh, jgh, jgh, (100, [], (jenc (jlg 0))), jgh, jgh, jgh, jgh, jgh, (4, [(4, 44), (1, 1)], []), (101, [], [0, 0, 0, 0, 0, 0])]) (rfl) (by simp only [List.cons.injEq, Prod.mk.injEq, and_true, true_and] <;> ((try unfold jw); (try unfold jwl); omega)) (rfl) ?_
  refine jT_xaload_n (v := (4, 2)) (pcN := 1883) jI_379_1882 rfl rfl rfl ?_
  refine jT_fR [0, 2, 4, 5, 6, 7, 8, 9, 10, 11, 12, 13, 14, 30, 31, 32, 33, 34, 35, 36, 43, 44] 45 (y := 347) (pcN := 1886) (dC := 6) (bc1 := 0) (bc2 := 0) (c1 := 10) (c2 := 360) (as := [(4, 0), (0, x1), (0, 6), (0, 2), (4, 2)]) (asC := [(4, 0), (0, x1), (0, 6), (0, 2), (4, 1)]) (LN := [(5, (0, 0)), (4, (4, 3)), (3, (4, 2)), (2, (4, 1)), (1, (4, 0)), (0, (6, 0))]) (stN := []) (hsC := jpA_4038) (v := (0, 0)) (st2 := [(0, 0)]) (jA_347_1454 (d := 0) (by omega)) (by rfl) (by rfl) (by decide +kernel) (by rfl) (by rfl) (by omega) (by omega) (by omega) (by omega) rfl ?_
  refine jT_xistore (v := (0, 0)) (LN := [(6, (0, 0)), (5, (0, 0)), (4, (4, 3)), (3, (4, 2)), (2, (4, 1)), (1, (4, 0)), (0, (6, 0))]) (pcN := 1888) jI_379_1886 rfl rfl rfl rfl ?_
  refine jT_xaload_n (v := (4, 1)) (pcN := 1889) jI_379_1888 rfl rfl rfl ?_
  refine jT_xaload_n (v := (6, 0)) (pcN := 1890) jI_379_1889 rfl rfl rfl ?_
  refine jT_xiload (v := (0, 0)) (pcN := 1892) jI_379_1890 rfl rfl rfl ?_
  refine jT_xiconst (k := 1) (pcN := 1893) jI_379_1892 rfl ?_
  refine jT_xiadd (x := 0) (y := 1) (z := 1) (pcN := 1894) jI_379_1893 rfl (by decide) rfl ?_
  refine jT_adv 1 (pcN := 1895) (LN := [(6, (0, 0)), (5, (0, 0)), (4, (4, 3)), (3, (4, 2)), (2, (4, 1)), (1, (4, 0)), (0, (6, 0))]) (stN := [(0, x1), (4, 1)]) (hsN := jpA_4078) (c1 := 0) (s1 := 0) (c2 := 10) (s2 := 360) (by exact rfl) ?_ (by omega) (by omega)
  refine jT_xaload_n (v := (6, 0)) (pcN := 1896) jI_379_1895 rfl rfl rfl ?_
  refine jT_xiload (v := (0, 0)) (pcN := 1898) jI_379_1896 rfl rfl rfl ?_
  refine jT_xiconst (k := 2) (pcN := 1899) jI_379_1898 rfl ?_
  refine jT_xiadd (x := 0) (y := 2) (z := 2) (pcN := 1900) jI_379_1899 rfl (by decide) rfl ?_
  refine jT_adv 1 (pcN := 1901) (LN := [(6, (0, 0)), (5, (0, 0)), (4, (4, 3)), (3, (4, 2)), (2, (4, 1)), (1, (4, 0)), (0, (6, 0))]) (stN := [(0, x2), (0, x1), (4, 1)]) (hsN := jpA_4078) (c1 := 0) (s1 := 0) (c2 := 10) (s2 := 360) (by exact rfl) ?_ (by omega) (by omega)
  refine jT_eq (LN := [(6, (0, 0)), (5, (0, 0)), (4, (4, 3)), (3, (4, 2)), (2, (4, 1)), (1, (4, 0)), (0, (6, 0))]) (stN := [(0, 6), (0, x1), (4, 1)]) (hsN := [jzA_265, jzA_266, (101, [], [0]), jgh, (8, [(4, 30), (4, 31)], []), jgh, jgh, jgh, jgh, jgh, jgh, jgh, jgh, jgh, jzA_721, (100, [], jS0), jgh, jgh, jgh, jgh, (130, [], [37, 38, 39, 40, 41, 42]), (101, [], [0, 0, 0, 0, 0, 0]), jgh, jgh, jgh, jgh, jgh, jgh, jgh, jgh, jgh, jgh, jzA_324, jgh, jgh, jgh, jgh, (100, [], (jenc (jlg 0))), jgh, jgh, jgh, jgh, jgh, (4, [(4, 44), (1, 1)], []), (101, [], [0, 0, 0, 0, 0, 0])]) (rfl) (by simp only [List.cons.injEq, Prod.mk.injEq, and_true, true_and] <;> ((try unfold jw); (try unfold jwl); omega)) (rfl) ?_
  refine jT_xaload_n (v := (6, 0)) (pcN := 1902) jI_379_1901 rfl rfl rfl ?_
  refine jT_xiload (v := (0, 0)) (pcN := 1904) jI_379_1902 rfl rfl rfl ?_
  refine jT_xiconst (k := 3) (pcN := 1905) jI_379_1904 rfl ?_
  refine jT_xiadd (x := 0) (y := 3) (z := 3) (pcN := 1906) jI_379_1905 rfl (by decide) rfl ?_
  refine jT_adv 1 (pcN := 1907) (LN := [(6, (0, 0)), (5, (0, 0)), (4, (4, 3)), (3, (4, 2)), (2, (4, 1)), (1, (4, 0)), (0, (6, 0))]) (stN := [(0, x3), (0, 6), (0, x1), (4, 1)]) (hsN := jpA_4078) (c1 := 0) (s1 := 0) (c2 := 10) (s2 := 360) (by exact rfl) ?_ (by omega) (by omega)
  refine jT_eq (LN := [(6, (0, 0)), (5, (0, 0)), (4, (4, 3)), (3, (4, 2)), (2, (4, 1)), (1, (4, 0)), (0, (6, 0))]) (stN := [(0, 2), (0, 6), (0, x1), (4, 1)]) (hsN := [jzA_265, jzA_266, (101, [], [0]), jgh, (8, [(4, 30), (4, 31)], []), jgh, jgh, jgh, jgh, jgh, jgh, jgh, jgh, jgh, jzA_721, (100, [], jS0), jgh, jgh, jgh, jgh, (130, [], [37, 38, 39, 40, 41, 42]), (101, [], [0, 0, 0, 0, 0, 0]), jgh, jgh, jgh, jgh, jgh, jgh, jgh, jgh, jgh, jgh, jzA_324, jgh, jgh, jgh, jgh, (100, [], (jenc (jlg 0))), jgh, jgh, jgh, jgh, jgh, (4, [(4, 44), (1, 1)], []), (101, [], [0, 0, 0, 0, 0, 0])]) (rfl) (by simp only [List.cons.injEq, Prod.mk.injEq, and_true, true_and] <;> ((try unfold jw); (try unfold jwl); omega)) (rfl) ?_
  refine jT_fA [1, 15, 16, 17, 18, 19, 20, 21, 22, 23, 24, 25, 26, 27, 28, 29, 37, 38, 39, 40, 41, 42] 45 (y := 263) (pcN := 1910) (dC := 8) (bc1 := 10) (bc2 := 360) (c1 := 0) (c2 := 0) (as := [(4, 1), (0, x1), (0, 6), (0, 2)]) (asC := [(4, 0), (0, x1), (0, 6), (0, 2)]) (LN := [(6, (0, 0)), (5, (0, 0)), (4, (4, 3)), (3, (4, 2)), (2, (4, 1)), (1, (4, 0)), (0, (6, 0))]) (stN := []) (hsC := jpA_1695) (ex := jpA_3654) (v := (1, 0)) (st2 := [(1, 0)]) (hs2 := jpA_4079) (jA_263_1456 (d := 0) (by omega)) (by rfl) (by rfl) (by decide +kernel) (by rfl) (by rfl) (by omega) (by omega) (by omega) (by omega) rfl (by decide +kernel) ?_
  refine jT_xlstore (v := (1, 0)) (LN := [(7, (1, 0)), (6, (0, 0)), (5, (0, 0)), (4, (4, 3)), (3, (4, 2)), (2, (4, 1)), (1, (4, 0)), (0, (6, 0))]) (pcN := 1912) jI_379_1910 rfl rfl rfl rfl ?_
  refine jT_xaload_n (v := (4, 1)) (pcN := 1913) jI_379_1912 rfl rfl rfl ?_
  refine jT_fR [1, 15, 16, 17, 18, 19, 20, 21, 22, 23, 24, 25, 26, 27, 28, 29] 55 (y := 186) (pcN := 1916) (dC := 0) (bc1 := 0) (bc2 := 0) (c1 := 0) (c2 := 0) (as := [(4, 1)]) (asC := [(4, 0)]) (LN := [(7, (1, 0)), (6, (0, 0)), (5, (0, 0)), (4, (4, 3)), (3, (4, 2)), (2, (4, 1)), (1, (4, 0)), (0, (6, 0))]) (stN := []) (hsC := jpA_22) (v := (0, 0)) (st2 := [(0, 0)]) (jA_186_726 (d := 0)) (by rfl) (by rfl) (by decide +kernel) (by rfl) (by rfl) (by omega) (by omega) (by omega) (by omega) rfl ?_
  refine jT_xiload (v := (0, 0)) (pcN := 1918) jI_379_1916 rfl rfl rfl ?_
  refine jT_xicT (pcN := 1923) jI_379_1918 rfl (by decide +kernel) rfl ?_
  refine jT_xiload (v := (0, 0)) (pcN := 1925) jI_379_1923 rfl rfl rfl ?_
  refine jT_xifF (t := 1939) (pcN := 1928) jI_379_1925 rfl (by decide +kernel) rfl rfl ?_
  refine jT_xaload_n (v := (4, 2)) (pcN := 1929) jI_379_1928 rfl rfl rfl ?_
  refine jT_xiconst (k := 0) (pcN := 1930) jI_379_1929 rfl ?_
  refine jT_lald (x := 0) (a := 2) (j := 0) (fs := []) (X := [0]) jI_379_1930 rfl rfl rfl rfl ?_
  refine jT_eq (LN := [(7, (1, 0)), (6, (0, 0)), (5, (0, 0)), (4, (4, 3)), (3, (4, 2)), (2, (4, 1)), (1, (4, 0)), (0, (6, 0))]) (stN := [(1, 0)]) (hsN := jpA_4079) rfl rfl rfl ?_
  refine jT_xlload (v := (1, 0)) (pcN := 1933) jI_379_1931 rfl rfl rfl ?_
  refine jT_lcmp (a := 0) (b := 0) (z := 0) (by rfl) (by rfl) (by decide +kernel) (by decide +kernel) (by decide) ?_
  refine jT_xifT (pcN := 1939) jI_379_1934 rfl (by decide +kernel) rfl ?_
  refine jT_xgoto (pcN := 3740) jI_379_1939 rfl ?_
  refine jT_xiinc (x := 0) (z := 5) (LN := [(5, (0, 5)), (7, (1, 0)), (6, (0, 0)), (4, (4, 3)), (3, (4, 2)), (2, (4, 1)), (1, (4, 0)), (0, (6, 0))]) (pcN := 3743) jI_379_3740 rfl rfl (by decide) rfl rfl ?_
  refine jT_xgoto (pcN := 28) jI_379_3743 rfl ?_
  refine jT_xiload (v := (0, 5)) (pcN := 30) jI_379_28 rfl rfl rfl ?_
  refine jT_xaload_n (v := (6, 0)) (pcN := 31) jI_379_30 rfl rfl rfl ?_
  refine jT_adv 1 (pcN := 32) (LN := [(5, (0, 5)), (7, (1, 0)), (6, (0, 0)), (4, (4, 3)), (3, (4, 2)), (2, (4, 1)), (1, (4, 0)), (0, (6, 0))]) (stN := [(0, 5), (0, 5)]) (hsN := jpA_4079) (c1 := 0) (s1 := 0) (c2 := 0) (s2 := 0) (by exact rfl) ?_ (by omega) (by omega)
  refine jT_xiconst (k := 5) (pcN := 33) jI_379_32 rfl ?_
  refine jT_xisub (x := 5) (y := 5) (z := 0) (pcN := 34) jI_379_33 rfl (by decide) rfl ?_
  refine jT_xicT (pcN := 3746) jI_379_34 rfl (by decide +kernel) rfl ?_
  refine jT_xiconst (k := 1) (pcN := 3747) jI_379_3746 rfl ?_
  exact jT_ret rfl (by decide) (by show 45 ≤ 55; decide) (by omega) (by omega) ⟨rfl, rfl⟩
set_option maxRecDepth 100000 in
theorem jL_22_24 {d : Nat} {x0 x1 x2 x3 x4 : Int} (h_x0 : (-2147483648) ≤ x0 ∧ x0 ≤ 2147483647) (h_x1 : 0 ≤ x1 ∧ x1 ≤ 7) (h_x2 : 7 ≤ x2 ∧ x2 ≤ 7) (h_x3 : 0 ≤ x3 ∧ x3 ≤ 0) (h_x4 : (-2147483648) ≤ x4 ∧ x4 ≤ 2147483647) : jT [x0, x1, x2, x3, x4] (d + 8) 379 45 1863 [(5, (0, 0)), (4, (4, 3)), (3, (4, 2)), (2, (4, 1)), (1, (4, 0)), (0, (6, 0))] [] jpA_4078 6 186 (fun k v hsN => k = 0 ∧ v = (0, 1)) := by
  refine jT_xaload_n (v := (4, 0)) (pcN := 1864) jI_379_1863 rfl rfl rfl ?_
  refine jT_xaload_n (v := (6, 0)) (pcN := 1865) jI_379_1864 rfl rfl rfl ?_
  refine jT_xiload (v := (0, 0)) (pcN := 1867) jI_379_1865 rfl rfl rfl ?_
  refine jT_xiconst (k := 1) (pcN := 1868) jI_379_1867 rfl ?_
  refine jT_xiadd (x := 0) (y := 1) (z := 1) (pcN := 1869) jI_379_1868 rfl (by decide) rfl ?_
  refine jT_adv 1 (pcN := 1870) (LN := [(5, (0, 0)), (4, (4, 3)), (3, (4, 2)), (2, (4, 1)), (1, (4, 0)), (0, (6, 0))]) (stN := [(0, x1), (4, 0)]) (hsN := jpA_4078) (c1 := 0) (s1 := 0) (c2 := 6) (s2 := 186) (by exact rfl) ?_ (by omega) (by omega)
  refine jT_xaload_n (v := (6, 0)) (pcN := 1871) jI_379_1870 rfl rfl rfl ?_
  refine jT_xiload (v := (0, 0)) (pcN := 1873) jI_379_1871 rfl rfl rfl ?_
  refine jT_xiconst (k := 2) (pcN := 1874) jI_379_1873 rfl ?_
  refine jT_xiadd (x := 0) (y := 2) (z := 2) (pcN := 1875) jI_379_1874 rfl (by decide) rfl ?_
  refine jT_adv 1 (pcN := 1876) (LN := [(5, (0, 0)), (4, (4, 3)), (3, (4, 2)), (2, (4, 1)), (1, (4, 0)), (0, (6, 0))]) (stN := [(0, x2), (0, x1), (4, 0)]) (hsN := jpA_4078) (c1 := 0) (s1 := 0) (c2 := 6) (s2 := 186) (by exact rfl) ?_ (by omega) (by omega)
  refine jT_eq (LN := [(5, (0, 0)), (4, (4, 3)), (3, (4, 2)), (2, (4, 1)), (1, (4, 0)), (0, (6, 0))]) (stN := [(0, 7), (0, x1), (4, 0)]) (hsN := [jzA_265, jzA_266, (101, [], [0]), jgh, (8, [(4, 30), (4, 31)], []), jgh, jgh, jgh, jgh, jgh, jgh, jgh, jgh, jgh, jzA_721, (100, [], jS0), jgh, jgh, jgh, jgh, (130, [], [37, 38, 39, 40, 41, 42]), (101, [], [0, 0, 0, 0, 0, 0]), jgh, jgh, jgh, jgh, jgh, jgh, jgh, jgh, jgh, jgh, jzA_324, jgh, jgh, jgh, jgh, (100, [], (jenc (jlg 0))), jgh, jgh, jgh, jgh, jgh, (4, [(4, 44), (1, 1)], []), (101, [], [0, 0, 0, 0, 0, 0])]) (rfl) (by simp only [List.cons.injEq, Prod.mk.injEq, and_true, true_and] <;> ((try unfold jw); (try unfold jwl); omega)) (rfl) ?_
  refine jT_xaload_n (v := (6, 0)) (pcN := 1877) jI_379_1876 rfl rfl rfl ?_
  refine jT_xiload (v := (0, 0)) (pcN := 1879) jI_379_1877 rfl rfl rfl ?_
  refine jT_xiconst (k := 3) (pcN := 1880) jI_379_1879 rfl ?_
  refine jT_xiadd (x := 0) (y := 3) (z := 3) (pcN := 1881) jI_379_1880 rfl (by decide) rfl ?_
  refine jT_adv 1 (pcN := 1882) (LN := [(5, (0, 0)), (4, (4, 3)), (3, (4, 2)), (2, (4, 1)), (1, (4, 0)), (0, (6, 0))]) (stN := [(0, x3), (0, 7), (0, x1), (4, 0)]) (hsN := jpA_4078) (c1 := 0) (s1 := 0) (c2 := 6) (s2 := 186) (by exact rfl) ?_ (by omega) (by omega)
  refine jT_eq (LN := [(5, (0, 0)), (4, (4, 3)), (3, (4, 2)), (2, (4, 1)), (1, (4, 0)), (0, (6, 0))]) (stN := [(0, 0), (0, 7), (0, x1), (4, 0)]) (hsN := [jzA_265, jzA_266, (101, [], [0]), jgh, (8, [(4, 30), (4, 31)], []), jgh, jgh, jgh, jgh, jgh, jgh, jgh, jgh, jgh, jzA_721, (100, [], jS0), jgh, jgh, jgh, jgh, (130, [], [37, 38, 39, 40, 41, 42]), (101, [], [0, 0, 0, 0, 0, 0]), jgh, jgh, jgh, jgh, jgh, jgh, jgh, jgh, jgh, jgh, jzA_324, jgh, jgh, jgh, jgh, (100, [], (jenc (jlg 0))), jgh, jgh, jgh, jgh, jgh, (4, [(4, 44), (1, 1)], []), (101, [], [0, 0, 0, 0, 0, 0])]) (rfl) (by simp only [List.cons.injEq, Prod.mk.injEq, and_true, true_and] <;> ((try unfold jw); (try unfold jwl); omega)) (rfl) ?_
  refine jT_xaload_n (v := (4, 2)) (pcN := 1883) jI_379_1882 rfl rfl rfl ?_
  refine jT_fR [0, 2, 4, 5, 6, 7, 8, 9, 10, 11, 12, 13, 14, 30, 31, 32, 33, 34, 35, 36, 43, 44] 45 (y := 347) (pcN := 1886) (dC := 5) (bc1 := 0) (bc2 := 0) (c1 := 6) (c2 := 186) (as := [(4, 0), (0, x1), (0, 7), (0, 0), (4, 2)]) (asC := [(4, 0), (0, x1), (0, 7), (0, 0), (4, 1)]) (LN := [(5, (0, 0)), (4, (4, 3)), (3, (4, 2)), (2, (4, 1)), (1, (4, 0)), (0, (6, 0))]) (stN := []) (hsC := jpA_4038) (v := (0, 0)) (st2 := [(0, 0)]) (jA_347_1463 (d := 0) (by omega)) (by rfl) (by rfl) (by decide +kernel) (by rfl) (by rfl) (by omega) (by omega) (by omega) (by omega) rfl ?_
  refine jT_xistore (v := (0, 0)) (LN := [(6, (0, 0)), (5, (0, 0)), (4, (4, 3)), (3, (4, 2)), (2, (4, 1)), (1, (4, 0)), (0, (6, 0))]) (pcN := 1888) jI_379_1886 rfl rfl rfl rfl ?_
  refine jT_xaload_n (v := (4, 1)) (pcN := 1889) jI_379_1888 rfl rfl rfl ?_
  refine jT_xaload_n (v := (6, 0)) (pcN := 1890) jI_379_1889 rfl rfl rfl ?_
  refine jT_xiload (v := (0, 0)) (pcN := 1892) jI_379_1890 rfl rfl rfl ?_
  refine jT_xiconst (k := 1) (pcN := 1893) jI_379_1892 rfl ?_
  refine jT_xiadd (x := 0) (y := 1) (z := 1) (pcN := 1894) jI_379_1893 rfl (by decide) rfl ?_
  refine jT_adv 1 (pcN := 1895) (LN := [(6, (0, 0)), (5, (0, 0)), (4, (4, 3)), (3, (4, 2)), (2, (4, 1)), (1, (4, 0)), (0, (6, 0))]) (stN := [(0, x1), (4, 1)]) (hsN := jpA_4078) (c1 := 0) (s1 := 0) (c2 := 6) (s2 := 186) (by exact rfl) ?_ (by omega) (by omega)
  refine jT_xaload_n (v := (6, 0)) (pcN := 1896) jI_379_1895 rfl rfl rfl ?_
  refine jT_xiload (v := (0, 0)) (pcN := 1898) jI_379_1896 rfl rfl rfl ?_
  refine jT_xiconst (k := 2) (pcN := 1899) jI_379_1898 rfl ?_
  refine jT_xiadd (x := 0) (y := 2) (z := 2) (pcN := 1900) jI_379_1899 rfl (by decide) rfl ?_
  refine jT_adv 1 (pcN := 1901) (LN := [(6, (0, 0)), (5, (0, 0)), (4, (4, 3)), (3, (4, 2)), (2, (4, 1)), (1, (4, 0)), (0, (6, 0))]) (stN := [(0, x2), (0, x1), (4, 1)]) (hsN := jpA_4078) (c1 := 0) (s1 := 0) (c2 := 6) (s2 := 186) (by exact rfl) ?_ (by omega) (by omega)
  refine jT_eq (LN := [(6, (0, 0)), (5, (0, 0)), (4, (4, 3)), (3, (4, 2)), (2, (4, 1)), (1, (4, 0)), (0, (6, 0))]) (stN := [(0, 7), (0, x1), (4, 1)]) (hsN := [jzA_265, jzA_266, (101, [], [0]), jgh, (8, [(4, 30), (4, 31)], []), jgh, jgh, jgh, jgh, jgh, jgh, jgh, jgh, jgh, jzA_721, (100, [], jS0), jgh, jgh, jgh, jgh, (130, [], [37, 38, 39, 40, 41, 42]), (101, [], [0, 0, 0, 0, 0, 0]), jgh, jgh, jgh, jgh, jgh, jgh, jgh, jgh, jgh, jgh, jzA_324, jgh, jgh, jgh, jgh, (100, [], (jenc (jlg 0))), jgh, jgh, jgh, jgh, jgh, (4, [(4, 44), (1, 1)], []), (101, [], [0, 0, 0, 0, 0, 0])]) (rfl) (by simp only [List.cons.injEq, Prod.mk.injEq, and_true, true_and] <;> ((try unfold jw); (try unfold jwl); omega)) (rfl) ?_
  refine jT_xaload_n (v := (6, 0)) (pcN := 1902) jI_379_1901 rfl rfl rfl ?_
  refine jT_xiload (v := (0, 0)) (pcN := 1904) jI_379_1902 rfl rfl rfl ?_
  refine jT_xiconst (k := 3) (pcN := 1905) jI_379_1904 rfl ?_
  refine jT_xiadd (x := 0) (y := 3) (z := 3) (pcN := 1906) jI_379_1905 rfl (by decide) rfl ?_
  refine jT_adv 1 (pcN := 1907) (LN := [(6, (0, 0)), (5, (0, 0)), (4, (4, 3)), (3, (4, 2)), (2, (4, 1)), (1, (4, 0)), (0, (6, 0))]) (stN := [(0, x3), (0, 7), (0, x1), (4, 1)]) (hsN := jpA_4078) (c1 := 0) (s1 := 0) (c2 := 6) (s2 := 186) (by exact rfl) ?_ (by omega) (by omega)
  refine jT_eq (LN := [(6, (0, 0)), (5, (0, 0)), (4, (4, 3)), (3, (4, 2)), (2, (4, 1)), (1, (4, 0)), (0, (6, 0))]) (stN := [(0, 0), (0, 7), (0, x1), (4, 1)]) (hsN := [jzA_265, jzA_266, (101, [], [0]), jgh, (8, [(4, 30), (4, 31)], []), jgh, jgh, jgh, jgh, jgh, jgh, jgh, jgh, jgh, jzA_721, (100, [], jS0), jgh, jgh, jgh, jgh, (130, [], [37, 38, 39, 40, 41, 42]), (101, [], [0, 0, 0, 0, 0, 0]), jgh, jgh, jgh, jgh, jgh, jgh, jgh, jgh, jgh, jgh, jzA_324, jgh, jgh, jgh, jgh, (100, [], (jenc (jlg 0))), jgh, jgh, jgh, jgh, jgh, (4, [(4, 44), (1, 1)], []), (101, [], [0, 0, 0, 0, 0, 0])]) (rfl) (by simp only [List.cons.injEq, Prod.mk.injEq, and_true, true_and] <;> ((try unfold jw); (try unfold jwl); omega)) (rfl) ?_
  refine jT_fA [1, 15, 16, 17, 18, 19, 20, 21, 22, 23, 24, 25, 26, 27, 28, 29, 37, 38, 39, 40, 41, 42] 45 (y := 263) (pcN := 1910) (dC := 7) (bc1 := 6) (bc2 := 186) (c1 := 0) (c2 := 0) (as := [(4, 1), (0, x1), (0, 7), (0, 0)]) (asC := [(4, 0), (0, x1), (0, 7), (0, 0)]) (LN := [(6, (0, 0)), (5, (0, 0)), (4, (4, 3)), (3, (4, 2)), (2, (4, 1)), (1, (4, 0)), (0, (6, 0))]) (stN := []) (hsC := jpA_1695) (ex := jpA_4341) (v := (1, 0)) (st2 := [(1, 0)]) (hs2 := jpA_4391) (jA_263_1468 (d := 0) (by omega)) (by rfl) (by rfl) (by decide +kernel) (by rfl) (by rfl) (by omega) (by omega) (by omega) (by omega) rfl (by decide +kernel) ?_
  refine jT_xlstore (v := (1, 0)) (LN := [(7, (1, 0)), (6, (0, 0)), (5, (0, 0)), (4, (4, 3)), (3, (4, 2)), (2, (4, 1)), (1, (4, 0)), (0, (6, 0))]) (pcN := 1912) jI_379_1910 rfl rfl rfl rfl ?_
  refine jT_xaload_n (v := (4, 1)) (pcN := 1913) jI_379_1912 rfl rfl rfl ?_
  refine jT_fR [1, 15, 16, 17, 18, 19, 20, 21, 22, 23, 24, 25, 26, 27, 28, 29] 51 (y := 186) (pcN := 1916) (dC := 0) (bc1 := 0) (bc2 := 0) (c1 := 0) (c2 := 0) (as := [(4, 1)]) (asC := [(4, 0)]) (LN := [(7, (1, 0)), (6, (0, 0)), (5, (0, 0)), (4, (4, 3)), (3, (4, 2)), (2, (4, 1)), (1, (4, 0)), (0, (6, 0))]) (stN := []) (hsC := jpA_22) (v := (0, 0)) (st2 := [(0, 0)]) (jA_186_726 (d := 0)) (by rfl) (by rfl) (by decide +kernel) (by rfl) (by rfl) (by omega) (by omega) (by omega) (by omega) rfl ?_
  refine jT_xiload (v := (0, 0)) (pcN := 1918) jI_379_1916 rfl rfl rfl ?_
  refine jT_xicT (pcN := 1923) jI_379_1918 rfl (by decide +kernel) rfl ?_
  refine jT_xiload (v := (0, 0)) (pcN := 1925) jI_379_1923 rfl rfl rfl ?_
  refine jT_xifF (t := 1939) (pcN := 1928) jI_379_1925 rfl (by decide +kernel) rfl rfl ?_
  refine jT_xaload_n (v := (4, 2)) (pcN := 1929) jI_379_1928 rfl rfl rfl ?_
  refine jT_xiconst (k := 0) (pcN := 1930) jI_379_1929 rfl ?_
  refine jT_lald (x := 0) (a := 2) (j := 0) (fs := []) (X := [0]) jI_379_1930 rfl rfl rfl rfl ?_
  refine jT_eq (LN := [(7, (1, 0)), (6, (0, 0)), (5, (0, 0)), (4, (4, 3)), (3, (4, 2)), (2, (4, 1)), (1, (4, 0)), (0, (6, 0))]) (stN := [(1, 0)]) (hsN := jpA_4391) rfl rfl rfl ?_
  refine jT_xlload (v := (1, 0)) (pcN := 1933) jI_379_1931 rfl rfl rfl ?_
  refine jT_lcmp (a := 0) (b := 0) (z := 0) (by rfl) (by rfl) (by decide +kernel) (by decide +kernel) (by decide) ?_
  refine jT_xifT (pcN := 1939) jI_379_1934 rfl (by decide +kernel) rfl ?_
  refine jT_xgoto (pcN := 3740) jI_379_1939 rfl ?_
  refine jT_xiinc (x := 0) (z := 5) (LN := [(5, (0, 5)), (7, (1, 0)), (6, (0, 0)), (4, (4, 3)), (3, (4, 2)), (2, (4, 1)), (1, (4, 0)), (0, (6, 0))]) (pcN := 3743) jI_379_3740 rfl rfl (by decide) rfl rfl ?_
  refine jT_xgoto (pcN := 28) jI_379_3743 rfl ?_
  refine jT_xiload (v := (0, 5)) (pcN := 30) jI_379_28 rfl rfl rfl ?_
  refine jT_xaload_n (v := (6, 0)) (pcN := 31) jI_379_30 rfl rfl rfl ?_
  refine jT_adv 1 (pcN := 32) (LN := [(5, (0, 5)), (7, (1, 0)), (6, (0, 0)), (4, (4, 3)), (3, (4, 2)), (2, (4, 1)), (1, (4, 0)), (0, (6, 0))]) (stN := [(0, 5), (0, 5)]) (hsN := jpA_4391) (c1 := 0) (s1 := 0) (c2 := 0) (s2 := 0) (by exact rfl) ?_ (by omega) (by omega)
  refine jT_xiconst (k := 5) (pcN := 33) jI_379_32 rfl ?_
  refine jT_xisub (x := 5) (y := 5) (z := 0) (pcN := 34) jI_379_33 rfl (by decide) rfl ?_
  refine jT_xicT (pcN := 3746) jI_379_34 rfl (by decide +kernel) rfl ?_
  refine jT_xiconst (k := 1) (pcN := 3747) jI_379_3746 rfl ?_
  exact jT_ret rfl (by decide) (by show 45 ≤ 51; decide) (by omega) (by omega) ⟨rfl, rfl⟩
set_option maxRecDepth 100000 in
theorem jL_22_25 {d : Nat} {x0 x1 x2 x3 x4 : Int} (h_x0 : (-2147483648) ≤ x0 ∧ x0 ≤ 2147483647) (h_x1 : 0 ≤ x1 ∧ x1 ≤ 7) (h_x2 : 7 ≤ x2 ∧ x2 ≤ 7) (h_x3 : 1 ≤ x3 ∧ x3 ≤ 1) (h_x4 : (-2147483648) ≤ x4 ∧ x4 ≤ 2147483647) : jT [x0, x1, x2, x3, x4] (d + 8) 379 45 1863 [(5, (0, 0)), (4, (4, 3)), (3, (4, 2)), (2, (4, 1)), (1, (4, 0)), (0, (6, 0))] [] jpA_4078 9 200 (fun k v hsN => k = 0 ∧ v = (0, 1)) := by
  refine jT_xaload_n (v := (4, 0)) (pcN := 1864) jI_379_1863 rfl rfl rfl ?_
  refine jT_xaload_n (v := (6, 0)) (pcN := 1865) jI_379_1864 rfl rfl rfl ?_
  refine jT_xiload (v := (0, 0)) (pcN := 1867) jI_379_1865 rfl rfl rfl ?_
  refine jT_xiconst (k := 1) (pcN := 1868) jI_379_1867 rfl ?_
  refine jT_xiadd (x := 0) (y := 1) (z := 1) (pcN := 1869) jI_379_1868 rfl (by decide) rfl ?_
  refine jT_adv 1 (pcN := 1870) (LN := [(5, (0, 0)), (4, (4, 3)), (3, (4, 2)), (2, (4, 1)), (1, (4, 0)), (0, (6, 0))]) (stN := [(0, x1), (4, 0)]) (hsN := jpA_4078) (c1 := 0) (s1 := 0) (c2 := 9) (s2 := 200) (by exact rfl) ?_ (by omega) (by omega)
  refine jT_xaload_n (v := (6, 0)) (pcN := 1871) jI_379_1870 rfl rfl rfl ?_
  refine jT_xiload (v := (0, 0)) (pcN := 1873) jI_379_1871 rfl rfl rfl ?_
  refine jT_xiconst (k := 2) (pcN := 1874) jI_379_1873 rfl ?_
  refine jT_xiadd (x := 0) (y := 2) (z := 2) (pcN := 1875) jI_379_1874 rfl (by decide) rfl ?_
  refine jT_adv 1 (pcN := 1876) (LN := [(5, (0, 0)), (4, (4, 3)), (3, (4, 2)), (2, (4, 1)), (1, (4, 0)), (0, (6, 0))]) (stN := [(0, x2), (0, x1), (4, 0)]) (hsN := jpA_4078) (c1 := 0) (s1 := 0) (c2 := 9) (s2 := 200) (by exact rfl) ?_ (by omega) (by omega)
  refine jT_eq (LN := [(5, (0, 0)), (4, (4, 3)), (3, (4, 2)), (2, (4, 1)), (1, (4, 0)), (0, (6, 0))]) (stN := [(0, 7), (0, x1), (4, 0)]) (hsN := [jzA_265, jzA_266, (101, [], [0]), jgh, (8, [(4, 30), (4, 31)], []), jgh, jgh, jgh, jgh, jgh, jgh, jgh, jgh, jgh, jzA_721, (100, [], jS0), jgh, jgh, jgh, jgh, (130, [], [37, 38, 39, 40, 41, 42]), (101, [], [0, 0, 0, 0, 0, 0]), jgh, jgh, jgh, jgh, jgh, jgh, jgh, jgh, jgh, jgh, jzA_324, jgh, jgh, jgh, jgh, (100, [], (jenc (jlg 0))), jgh, jgh, jgh, jgh, jgh, (4, [(4, 44), (1, 1)], []), (101, [], [0, 0, 0, 0, 0, 0])]) (rfl) (by simp only [List.cons.injEq, Prod.mk.injEq, and_true, true_and] <;> ((try unfold jw); (try unfold jwl); omega)) (rfl) ?_
  refine jT_xaload_n (v := (6, 0)) (pcN := 1877) jI_379_1876 rfl rfl rfl ?_
  refine jT_xiload (v := (0, 0)) (pcN := 1879) jI_379_1877 rfl rfl rfl ?_
  refine jT_xiconst (k := 3) (pcN := 1880) jI_379_1879 rfl ?_
  refine jT_xiadd (x := 0) (y := 3) (z := 3) (pcN := 1881) jI_379_1880 rfl (by decide) rfl ?_
  refine jT_adv 1 (pcN := 1882) (LN := [(5, (0, 0)), (4, (4, 3)), (3, (4, 2)), (2, (4, 1)), (1, (4, 0)), (0, (6, 0))]) (stN := [(0, x3), (0, 7), (0, x1), (4, 0)]) (hsN := jpA_4078) (c1 := 0) (s1 := 0) (c2 := 9) (s2 := 200) (by exact rfl) ?_ (by omega) (by omega)
  refine jT_eq (LN := [(5, (0, 0)), (4, (4, 3)), (3, (4, 2)), (2, (4, 1)), (1, (4, 0)), (0, (6, 0))]) (stN := [(0, 1), (0, 7), (0, x1), (4, 0)]) (hsN := [jzA_265, jzA_266, (101, [], [0]), jgh, (8, [(4, 30), (4, 31)], []), jgh, jgh, jgh, jgh, jgh, jgh, jgh, jgh, jgh, jzA_721, (100, [], jS0), jgh, jgh, jgh, jgh, (130, [], [37, 38, 39, 40, 41, 42]), (101, [], [0, 0, 0, 0, 0, 0]), jgh, jgh, jgh, jgh, jgh, jgh, jgh, jgh, jgh, jgh, jzA_324, jgh, jgh, jgh, jgh, (100, [], (jenc (jlg 0))), jgh, jgh, jgh, jgh, jgh, (4, [(4, 44), (1, 1)], []), (101, [], [0, 0, 0, 0, 0, 0])]) (rfl) (by simp only [List.cons.injEq, Prod.mk.injEq, and_true, true_and] <;> ((try unfold jw); (try unfold jwl); omega)) (rfl) ?_
  refine jT_xaload_n (v := (4, 2)) (pcN := 1883) jI_379_1882 rfl rfl rfl ?_
  refine jT_fA [0, 2, 4, 5, 6, 7, 8, 9, 10, 11, 12, 13, 14, 30, 31, 32, 33, 34, 35, 36, 43, 44] 45 (y := 347) (pcN := 1886) (dC := 5) (bc1 := 2) (bc2 := 8) (c1 := 7) (c2 := 192) (as := [(4, 0), (0, x1), (0, 7), (0, 1), (4, 2)]) (asC := [(4, 0), (0, x1), (0, 7), (0, 1), (4, 1)]) (LN := [(5, (0, 0)), (4, (4, 3)), (3, (4, 2)), (2, (4, 1)), (1, (4, 0)), (0, (6, 0))]) (stN := []) (hsC := jpA_4038) (ex := [(101, [], [0, 0, 0, 0, 0, 0]), (4, [(4, 22), (1, 1)], [])]) (v := (0, 0)) (st2 := [(0, 0)]) (hs2 := jpA_4397) (jA_347_1471 (d := 0) (by omega)) (by rfl) (by rfl) (by decide +kernel) (by rfl) (by rfl) (by omega) (by omega) (by omega) (by omega) rfl (by decide +kernel) ?_
  refine jT_xistore (v := (0, 0)) (LN := [(6, (0, 0)), (5, (0, 0)), (4, (4, 3)), (3, (4, 2)), (2, (4, 1)), (1, (4, 0)), (0, (6, 0))]) (pcN := 1888) jI_379_1886 rfl rfl rfl rfl ?_
  refine jT_xaload_n (v := (4, 1)) (pcN := 1889) jI_379_1888 rfl rfl rfl ?_
  refine jT_xaload_n (v := (6, 0)) (pcN := 1890) jI_379_1889 rfl rfl rfl ?_
  refine jT_xiload (v := (0, 0)) (pcN := 1892) jI_379_1890 rfl rfl rfl ?_
  refine jT_xiconst (k := 1) (pcN := 1893) jI_379_1892 rfl ?_
  refine jT_xiadd (x := 0) (y := 1) (z := 1) (pcN := 1894) jI_379_1893 rfl (by decide) rfl ?_
  refine jT_adv 1 (pcN := 1895) (LN := [(6, (0, 0)), (5, (0, 0)), (4, (4, 3)), (3, (4, 2)), (2, (4, 1)), (1, (4, 0)), (0, (6, 0))]) (stN := [(0, x1), (4, 1)]) (hsN := jpA_4397) (c1 := 0) (s1 := 0) (c2 := 7) (s2 := 192) (by exact rfl) ?_ (by omega) (by omega)
  refine jT_xaload_n (v := (6, 0)) (pcN := 1896) jI_379_1895 rfl rfl rfl ?_
  refine jT_xiload (v := (0, 0)) (pcN := 1898) jI_379_1896 rfl rfl rfl ?_
  refine jT_xiconst (k := 2) (pcN := 1899) jI_379_1898 rfl ?_
  refine jT_xiadd (x := 0) (y := 2) (z := 2) (pcN := 1900) jI_379_1899 rfl (by decide) rfl ?_
  refine jT_adv 1 (pcN := 1901) (LN := [(6, (0, 0)), (5, (0, 0)), (4, (4, 3)), (3, (4, 2)), (2, (4, 1)), (1, (4, 0)), (0, (6, 0))]) (stN := [(0, x2), (0, x1), (4, 1)]) (hsN := jpA_4397) (c1 := 0) (s1 := 0) (c2 := 7) (s2 := 192) (by exact rfl) ?_ (by omega) (by omega)
  refine jT_eq (LN := [(6, (0, 0)), (5, (0, 0)), (4, (4, 3)), (3, (4, 2)), (2, (4, 1)), (1, (4, 0)), (0, (6, 0))]) (stN := [(0, 7), (0, x1), (4, 1)]) (hsN := [jzA_265, jzA_266, (101, [], [0]), jgh, (8, [(4, 30), (4, 31)], []), jgh, jgh, jgh, jgh, jgh, jgh, jgh, jgh, jgh, jzA_721, (100, [], jS0), jgh, jgh, jgh, jgh, (130, [], [37, 38, 39, 40, 41, 42]), (101, [], [0, 0, 0, 0, 0, 0]), jgh, jgh, jgh, jgh, jgh, jgh, jgh, jgh, jgh, jgh, jzA_324, jgh, jgh, jgh, jgh, (100, [], (jenc (jlg 0))), jgh, jgh, jgh, jgh, jgh, (4, [(4, 44), (1, 1)], []), (101, [], [0, 0, 0, 0, 0, 0]), (101, [], [0, 0, 0, 0, 0, 0]), (4, [(4, 45), (1, 1)], [])]) (rfl) (by simp only [List.cons.injEq, Prod.mk.injEq, and_true, true_and] <;> ((try unfold jw); (try unfold jwl); omega)) (rfl) ?_
  refine jT_xaload_n (v := (6, 0)) (pcN := 1902) jI_379_1901 rfl rfl rfl ?_
  refine jT_xiload (v := (0, 0)) (pcN := 1904) jI_379_1902 rfl rfl rfl ?_
  refine jT_xiconst (k := 3) (pcN := 1905) jI_379_1904 rfl ?_
  refine jT_xiadd (x := 0) (y := 3) (z := 3) (pcN := 1906) jI_379_1905 rfl (by decide) rfl ?_
  refine jT_adv 1 (pcN := 1907) (LN := [(6, (0, 0)), (5, (0, 0)), (4, (4, 3)), (3, (4, 2)), (2, (4, 1)), (1, (4, 0)), (0, (6, 0))]) (stN := [(0, x3), (0, 7), (0, x1), (4, 1)]) (hsN := jpA_4397) (c1 := 0) (s1 := 0) (c2 := 7) (s2 := 192) (by exact rfl) ?_ (by omega) (by omega)
  refine jT_eq (LN := [(6, (0, 0)), (5, (0, 0)), (4, (4, 3)), (3, (4, 2)), (2, (4, 1)), (1, (4, 0)), (0, (6, 0))]) (stN := [(0, 1), (0, 7), (0, x1), (4, 1)]) (hsN := [jzA_265, jzA_266, (101, [], [0]), jgh, (8, [(4, 30), (4, 31)], []), jgh, jgh, jgh, jgh, jgh, jgh, jgh, jgh, jgh, jzA_721, (100, [], jS0), jgh, jgh, jgh, jgh, (130, [], [37, 38, 39, 40, 41, 42]), (101, [], [0, 0, 0, 0, 0, 0]), jgh, jgh, jgh, jgh, jgh, jgh, jgh, jgh, jgh, jgh, jzA_324, jgh, jgh, jgh, jgh, (100, [], (jenc (jlg 0))), jgh, jgh, jgh, jgh, jgh, (4, [(4, 44), (1, 1)], []), (101, [], [0, 0, 0, 0, 0, 0]), (101, [], [0, 0, 0, 0, 0, 0]), (4, [(4, 45), (1, 1)], [])]) (rfl) (by simp only [List.cons.injEq, Prod.mk.injEq, and_true, true_and] <;> ((try unfold jw); (try unfold jwl); omega)) (rfl) ?_
  refine jT_fA [1, 15, 16, 17, 18, 19, 20, 21, 22, 23, 24, 25, 26, 27, 28, 29, 37, 38, 39, 40, 41, 42] 47 (y := 263) (pcN := 1910) (dC := 7) (bc1 := 7) (bc2 := 192) (c1 := 0) (c2 := 0) (as := [(4, 1), (0, x1), (0, 7), (0, 1)]) (asC := [(4, 0), (0, x1), (0, 7), (0, 1)]) (LN := [(6, (0, 0)), (5, (0, 0)), (4, (4, 3)), (3, (4, 2)), (2, (4, 1)), (1, (4, 0)), (0, (6, 0))]) (stN := []) (hsC := jpA_1695) (ex := jpA_4354) (v := (1, 0)) (st2 := [(1, 0)]) (hs2 := jpA_4398) (jA_263_1473 (d := 0) (by omega)) (by rfl) (by rfl) (by decide +kernel) (by rfl) (by rfl) (by omega) (by omega) (by omega) (by omega) rfl (by decide +kernel) ?_
  refine jT_xlstore (v := (1, 0)) (LN := [(7, (1, 0)), (6, (0, 0)), (5, (0, 0)), (4, (4, 3)), (3, (4, 2)), (2, (4, 1)), (1, (4, 0)), (0, (6, 0))]) (pcN := 1912) jI_379_1910 rfl rfl rfl rfl ?_
  refine jT_xaload_n (v := (4, 1)) (pcN := 1913) jI_379_1912 rfl rfl rfl ?_
  refine jT_fR [1, 15, 16, 17, 18, 19, 20, 21, 22, 23, 24, 25, 26, 27, 28, 29] 54 (y := 186) (pcN := 1916) (dC := 0) (bc1 := 0) (bc2 := 0) (c1 := 0) (c2 := 0) (as := [(4, 1)]) (asC := [(4, 0)]) (LN := [(7, (1, 0)), (6, (0, 0)), (5, (0, 0)), (4, (4, 3)), (3, (4, 2)), (2, (4, 1)), (1, (4, 0)), (0, (6, 0))]) (stN := []) (hsC := jpA_22) (v := (0, 0)) (st2 := [(0, 0)]) (jA_186_726 (d := 0)) (by rfl) (by rfl) (by decide +kernel) (by rfl) (by rfl) (by omega) (by omega) (by omega) (by omega) rfl ?_
  refine jT_xiload (v := (0, 0)) (pcN := 1918) jI_379_1916 rfl rfl rfl ?_
  refine jT_xicT (pcN := 1923) jI_379_1918 rfl (by decide +kernel) rfl ?_
  refine jT_xiload (v := (0, 0)) (pcN := 1925) jI_379_1923 rfl rfl rfl ?_
  refine jT_xifF (t := 1939) (pcN := 1928) jI_379_1925 rfl (by decide +kernel) rfl rfl ?_
  refine jT_xaload_n (v := (4, 2)) (pcN := 1929) jI_379_1928 rfl rfl rfl ?_
  refine jT_xiconst (k := 0) (pcN := 1930) jI_379_1929 rfl ?_
  refine jT_lald (x := 0) (a := 2) (j := 0) (fs := []) (X := [0]) jI_379_1930 rfl rfl rfl rfl ?_
  refine jT_eq (LN := [(7, (1, 0)), (6, (0, 0)), (5, (0, 0)), (4, (4, 3)), (3, (4, 2)), (2, (4, 1)), (1, (4, 0)), (0, (6, 0))]) (stN := [(1, 0)]) (hsN := jpA_4398) rfl rfl rfl ?_
  refine jT_xlload (v := (1, 0)) (pcN := 1933) jI_379_1931 rfl rfl rfl ?_
  refine jT_lcmp (a := 0) (b := 0) (z := 0) (by rfl) (by rfl) (by decide +kernel) (by decide +kernel) (by decide) ?_
  refine jT_xifT (pcN := 1939) jI_379_1934 rfl (by decide +kernel) rfl ?_
  refine jT_xgoto (pcN := 3740) jI_379_1939 rfl ?_
  refine jT_xiinc (x := 0) (z := 5) (LN := [(5, (0, 5)), (7, (1, 0)), (6, (0, 0)), (4, (4, 3)), (3, (4, 2)), (2, (4, 1)), (1, (4, 0)), (0, (6, 0))]) (pcN := 3743) jI_379_3740 rfl rfl (by decide) rfl rfl ?_
  refine jT_xgoto (pcN := 28) jI_379_3743 rfl ?_
  refine jT_xiload (v := (0, 5)) (pcN := 30) jI_379_28 rfl rfl rfl ?_
  refine jT_xaload_n (v := (6, 0)) (pcN := 31) jI_379_30 rfl rfl rfl ?_
  refine jT_adv 1 (pcN := 32) (LN := [(5, (0, 5)), (7, (1, 0)), (6, (0, 0)), (4, (4, 3)), (3, (4, 2)), (2, (4, 1)), (1, (4, 0)), (0, (6, 0))]) (stN := [(0, 5), (0, 5)]) (hsN := jpA_4398) (c1 := 0) (s1 := 0) (c2 := 0) (s2 := 0) (by exact rfl) ?_ (by omega) (by omega)
  refine jT_xiconst (k := 5) (pcN := 33) jI_379_32 rfl ?_
  refine jT_xisub (x := 5) (y := 5) (z := 0) (pcN := 34) jI_379_33 rfl (by decide) rfl ?_
  refine jT_xicT (pcN := 3746) jI_379_34 rfl (by decide +kernel) rfl ?_
  refine jT_xiconst (k := 1) (pcN := 3747) jI_379_3746 rfl ?_
  exact jT_ret rfl (by decide) (by show 45 ≤ 54; decide) (by omega) (by omega) ⟨rfl, rfl⟩
set_option maxRecDepth 100000 in
theorem jL_22_26 {d : Nat} {x0 x1 x2 x3 x4 : Int} (h_x0 : (-2147483648) ≤ x0 ∧ x0 ≤ 2147483647) (h_x1 : 0 ≤ x1 ∧ x1 ≤ 7) (h_x2 : 7 ≤ x2 ∧ x2 ≤ 7) (h_x3 : 2 ≤ x3 ∧ x3 ≤ 2) (h_x4 : (-2147483648) ≤ x4 ∧ x4 ≤ 2147483647) : jT [x0, x1, x2, x3, x4] (d + 9) 379 45 1863 [(5, (0, 0)), (4, (4, 3)), (3, (4, 2)), (2, (4, 1)), (1, (4, 0)), (0, (6, 0))] [] jpA_4078 10 360 (fun k v hsN => k = 0 ∧ v = (0, 1)) := by
  refine jT_xaload_n (v := (4, 0)) (pcN := 1864) jI_379_1863 rfl rfl rfl ?_
  refine jT_xaload_n (v := (6, 0)) (pcN := 1865) jI_379_1864 rfl rfl rfl ?_
  refine jT_xiload (v := (0, 0)) (pcN := 1867) jI_379_1865 rfl rfl rfl ?_
  refine jT_xiconst (k := 1) (pcN := 1868) jI_379_1867 rfl ?_
  refine jT_xiadd (x := 0) (y := 1) (z := 1) (pcN := 1869) jI_379_1868 rfl (by decide) rfl ?_
  refine jT_adv 1 (pcN := 1870) (LN := [(5, (0, 0)), (4, (4, 3)), (3, (4, 2)), (2, (4, 1)), (1, (4, 0)), (0, (6, 0))]) (stN := [(0, x1), (4, 0)]) (hsN := jpA_4078) (c1 := 0) (s1 := 0) (c2 := 10) (s2 := 360) (by exact rfl) ?_ (by omega) (by omega)
  refine jT_xaload_n (v := (6, 0)) (pcN := 1871) jI_379_1870 rfl rfl rfl ?_
  refine jT_xiload (v := (0, 0)) (pcN := 1873) jI_379_1871 rfl rfl rfl ?_
  refine jT_xiconst (k := 2) (pcN := 1874) jI_379_1873 rfl ?_
  refine jT_xiadd (x := 0) (y := 2) (z := 2) (pcN := 1875) jI_379_1874 rfl (by decide) rfl ?_
  refine jT_adv 1 (pcN := 1876) (LN := [(5, (0, 0)), (4, (4, 3)), (3, (4, 2)), (2, (4, 1)), (1, (4, 0)), (0, (6, 0))]) (stN := [(0, x2), (0, x1), (4, 0)]) (hsN := jpA_4078) (c1 := 0) (s1 := 0) (c2 := 10) (s2 := 360) (by exact rfl) ?_ (by omega) (by omega)
  refine jT_eq (LN := [(5, (0, 0)), (4, (4, 3)), (3, (4, 2)), (2, (4, 1)), (1, (4, 0)), (0, (6, 0))]) (stN := [(0, 7), (0, x1), (4, 0)]) (hsN := [jzA_265, jzA_266, (101, [], [0]), jgh, (8, [(4, 30), (4, 31)], []), jgh, jgh, jgh, jgh, jgh, jgh, jgh, jgh, jgh, jzA_721, (100, [], jS0), jgh, jgh, jgh, jgh, (130, [], [37, 38, 39, 40, 41, 42]), (101, [], [0, 0, 0, 0, 0, 0]), jgh, jgh, jgh, jgh, jgh, jgh, jgh, jgh, jgh, jgh, jzA_324, jgh, jgh, jgh, jgh, (100, [], (jenc (jlg 0))), jgh, jgh, jgh, jgh, jgh, (4, [(4, 44), (1, 1)], []), (101, [], [0, 0, 0, 0, 0, 0])]) (rfl) (by simp only [List.cons.injEq, Prod.mk.injEq, and_true, true_and] <;> ((try unfold jw); (try unfold jwl); omega)) (rfl) ?_
  refine jT_xaload_n (v := (6, 0)) (pcN := 1877) jI_379_1876 rfl rfl rfl ?_
  refine jT_xiload (v := (0, 0)) (pcN := 1879) jI_379_1877 rfl rfl rfl ?_
  refine jT_xiconst (k := 3) (pcN := 1880) jI_379_1879 rfl ?_
  refine jT_xiadd (x := 0) (y := 3) (z := 3) (pcN := 1881) jI_379_1880 rfl (by decide) rfl ?_
  refine jT_adv 1 (pcN := 1882) (LN := [(5, (0, 0)), (4, (4, 3)), (3, (4, 2)), (2, (4, 1)), (1, (4, 0)), (0, (6, 0))]) (stN := [(0, x3), (0, 7), (0, x1), (4, 0)]) (hsN := jpA_4078) (c1 := 0) (s1 := 0) (c2 := 10) (s2 := 360) (by exact rfl) ?_ (by omega) (by omega)
  refine jT_eq (LN := [(5, (0, 0)), (4, (4, 3)), (3, (4, 2)), (2, (4, 1)), (1, (4, 0)), (0, (6, 0))]) (stN := [(0, 2), (0, 7), (0, x1), (4, 0)]) (hsN := [jzA_265, jzA_266, (101, [], [0]), jgh, (8, [(4, 30), (4, 31)], []), jgh, jgh, jgh, jgh, jgh, jgh, jgh, jgh, jgh, jzA_721, (100, [], jS0), jgh, jgh, jgh, jgh, (130, [], [37, 38, 39, 40, 41, 42]), (101, [], [0, 0, 0, 0, 0, 0]), jgh, jgh, jgh, jgh, jgh, jgh, jgh, jgh, jgh, jgh, jzA_324, jgh, jgh, jgh, jgh, (100, [], (jenc (jlg 0))), jgh, jgh, jgh, jgh, jgh, (4, [(4, 44), (1, 1)], []), (101, [], [0, 0, 0, 0, 0, 0])]) (rfl) (by simp only [List.cons.injEq, Prod.mk.injEq, and_true, true_and] <;> ((try unfold jw); (try unfold jwl); omega)) (rfl) ?_
  refine jT_xaload_n (v := (4, 2)) (pcN := 1883) jI_379_1882 rfl rfl rfl ?_
  refine jT_fR [0, 2, 4, 5, 6, 7, 8, 9, 10, 11, 12, 13, 14, 30, 31, 32, 33, 34, 35, 36, 43, 44] 45 (y := 347) (pcN := 1886) (dC := 6) (bc1 := 0) (bc2 := 0) (c1 := 10) (c2 := 360) (as := [(4, 0), (0, x1), (0, 7), (0, 2), (4, 2)]) (asC := [(4, 0), (0, x1), (0, 7), (0, 2), (4, 1)]) (LN := [(5, (0, 0)), (4, (4, 3)), (3, (4, 2)), (2, (4, 1)), (1, (4, 0)), (0, (6, 0))]) (stN := []) (hsC := jpA_4038) (v := (0, 0)) (st2 := [(0, 0)]) (jA_347_1479 (d := 0) (by omega)) (by rfl) (by rfl) (by decide +kernel) (by rfl) (by rfl) (by omega) (by omega) (by omega) (by omega) rfl ?_
  refine jT_xistore (v := (0, 0)) (LN := [(6, (0, 0)), (5, (0, 0)), (4, (4, 3)), (3, (4, 2)), (2, (4, 1)), (1, (4, 0)), (0, (6, 0))]) (pcN := 1888) jI_379_1886 rfl rfl rfl rfl ?_
  refine jT_xaload_n (v := (4, 1)) (pcN := 1889) jI_379_1888 rfl rfl rfl ?_
  refine jT_xaload_n (v := (6, 0)) (pcN := 1890) jI_379_1889 rfl rfl rfl ?_
  refine jT_xiload (v := (0, 0)) (pcN := 1892) jI_379_1890 rfl rfl rfl ?_
  refine jT_xiconst (k := 1) (pcN := 1893) jI_379_1892 rfl ?_
  refine jT_xiadd (x := 0) (y := 1) (z := 1) (pcN := 1894) jI_379_1893 rfl (by decide) rfl ?_
  refine jT_adv 1 (pcN := 1895) (LN := [(6, (0, 0)), (5, (0, 0)), (4, (4, 3)), (3, (4, 2)), (2, (4, 1)), (1, (4, 0)), (0, (6, 0))]) (stN := [(0, x1), (4, 1)]) (hsN := jpA_4078) (c1 := 0) (s1 := 0) (c2 := 10) (s2 := 360) (by exact rfl) ?_ (by omega) (by omega)
  refine jT_xaload_n (v := (6, 0)) (pcN := 1896) jI_379_1895 rfl rfl rfl ?_
  refine jT_xiload (v := (0, 0)) (pcN := 1898) jI_379_1896 rfl rfl rfl ?_
  refine jT_xiconst (k := 2) (pcN := 1899) jI_379_1898 rfl ?_
  refine jT_xiadd (x := 0) (y := 2) (z := 2) (pcN := 1900) jI_379_1899 rfl (by decide) rfl ?_
  refine jT_adv 1 (pcN := 1901) (LN := [(6, (0, 0)), (5, (0, 0)), (4, (4, 3)), (3, (4, 2)), (2, (4, 1)), (1, (4, 0)), (0, (6, 0))]) (stN := [(0, x2), (0, x1), (4, 1)]) (hsN := jpA_4078) (c1 := 0) (s1 := 0) (c2 := 10) (s2 := 360) (by exact rfl) ?_ (by omega) (by omega)
  refine jT_eq (LN := [(6, (0, 0)), (5, (0, 0)), (4, (4, 3)), (3, (4, 2)), (2, (4, 1)), (1, (4, 0)), (0, (6, 0))]) (stN := [(0, 7), (0, x1), (4, 1)]) (hsN := [jzA_265, jzA_266, (101, [], [0]), jgh, (8, [(4, 30), (4, 31)], []), jgh, jgh, jgh, jgh, jgh, jgh, jgh, jgh, jgh, jzA_721, (100, [], jS0), jgh, jgh, jgh, jgh, (130, [], [37, 38, 39, 40, 41, 42]), (101, [], [0, 0, 0, 0, 0, 0]), jgh, jgh, jgh, jgh, jgh, jgh, jgh, jgh, jgh, jgh, jzA_324, jgh, jgh, jgh, jgh, (100, [], (jenc (jlg 0))), jgh, jgh, jgh, jgh, jgh, (4, [(4, 44), (1, 1)], []), (101, [], [0, 0, 0, 0, 0, 0])]) (rfl) (by simp only [List.cons.injEq, Prod.mk.injEq, and_true, true_and] <;> ((try unfold jw); (try unfold jwl); omega)) (rfl) ?_
  refine jT_xaload_n (v := (6, 0)) (pcN := 1902) jI_379_1901 rfl rfl rfl ?_
  refine jT_xiload (v := (0, 0)) (pcN := 1904) jI_379_1902 rfl rfl rfl ?_
  refine jT_xiconst (k := 3) (pcN := 1905) jI_379_1904 rfl ?_
  refine jT_xiadd (x := 0) (y := 3) (z := 3) (pcN := 1906) jI_379_1905 rfl (by decide) rfl ?_
  refine jT_adv 1 (pcN := 1907) (LN := [(6, (0, 0)), (5, (0, 0)), (4, (4, 3)), (3, (4, 2)), (2, (4, 1)), (1, (4, 0)), (0, (6, 0))]) (stN := [(0, x3), (0, 7), (0, x1), (4, 1)]) (hsN := jpA_4078) (c1 := 0) (s1 := 0) (c2 := 10) (s2 := 360) (by exact rfl) ?_ (by omega) (by omega)
  refine jT_eq (LN := [(6, (0, 0)), (5, (0, 0)), (4, (4, 3)), (3, (4, 2)), (2, (4, 1)), (1, (4, 0)), (0, (6, 0))]) (stN := [(0, 2), (0, 7), (0, x1), (4, 1)]) (hsN := [jzA_265, jzA_266, (101, [], [0]), jgh, (8, [(4, 30), (4, 31)], []), jgh, jgh, jgh, jgh, jgh, jgh, jgh, jgh, jgh, jzA_721, (100, [], jS0), jgh, jgh, jgh, jgh, (130, [], [37, 38, 39, 40, 41, 42]), (101, [], [0, 0, 0, 0, 0, 0]), jgh, jgh, jgh, jgh, jgh, jgh, jgh, jgh, jgh, jgh, jzA_324, jgh, jgh, jgh, jgh, (100, [], (jenc (jlg 0))), jgh, jgh, jgh, jgh, jgh, (4, [(4, 44), (1, 1)], []), (101, [], [0, 0, 0, 0, 0, 0])]) (rfl) (by simp only [List.cons.injEq, Prod.mk.injEq, and_true, true_and] <;> ((try unfold jw); (try unfold jwl); omega)) (rfl) ?_
  refine jT_fA [1, 15, 16, 17, 18, 19, 20, 21, 22, 23, 24, 25, 26, 27, 28, 29, 37, 38, 39, 40, 41, 42] 45 (y := 263) (pcN := 1910) (dC := 8) (bc1 := 10) (bc2 := 360) (c1 := 0) (c2 := 0) (as := [(4, 1), (0, x1), (0, 7), (0, 2)]) (asC := [(4, 0), (0, x1), (0, 7), (0, 2)]) (LN := [(6, (0, 0)), (5, (0, 0)), (4, (4, 3)), (3, (4, 2)), (2, (4, 1)), (1, (4, 0)), (0, (6, 0))]) (stN := []) (hsC := jpA_1695) (ex := jpA_3654) (v := (1, 0)) (st2 := [(1, 0)]) (hs2 := jpA_4079) (jA_263_1481 (d := 0) (by omega)) (by rfl) (by rfl) (by decide +kernel) (by rfl) (by rfl) (by omega) (by omega) (by omega) (by omega) rfl (by decide +kernel) ?_
  refine jT_xlstore (v := (1, 0)) (LN := [(7, (1, 0)), (6, (0, 0)), (5, (0, 0)), (4, (4, 3)), (3, (4, 2)), (2, (4, 1)), (1, (4, 0)), (0, (6, 0))]) (pcN := 1912) jI_379_1910 rfl rfl rfl rfl ?_
  refine jT_xaload_n (v := (4, 1)) (pcN := 1913) jI_379_1912 rfl rfl rfl ?_
  refine jT_fR [1, 15, 16, 17, 18, 19, 20, 21, 22, 23, 24, 25, 26, 27, 28, 29] 55 (y := 186) (pcN := 1916) (dC := 0) (bc1 := 0) (bc2 := 0) (c1 := 0) (c2 := 0) (as := [(4, 1)]) (asC := [(4, 0)]) (LN := [(7, (1, 0)), (6, (0, 0)), (5, (0, 0)), (4, (4, 3)), (3, (4, 2)), (2, (4, 1)), (1, (4, 0)), (0, (6, 0))]) (stN := []) (hsC := jpA_22) (v := (0, 0)) (st2 := [(0, 0)]) (jA_186_726 (d := 0)) (by rfl) (by rfl) (by decide +kernel) (by rfl) (by rfl) (by omega) (by omega) (by omega) (by omega) rfl ?_
  refine jT_xiload (v := (0, 0)) (pcN := 1918) jI_379_1916 rfl rfl rfl ?_
  refine jT_xicT (pcN := 1923) jI_379_1918 rfl (by decide +kernel) rfl ?_
  refine jT_xiload (v := (0, 0)) (pcN := 1925) jI_379_1923 rfl rfl rfl ?_
  refine jT_xifF (t := 1939) (pcN := 1928) jI_379_1925 rfl (by decide +kernel) rfl rfl ?_
  refine jT_xaload_n (v := (4, 2)) (pcN := 1929) jI_379_1928 rfl rfl rfl ?_
  refine jT_xiconst (k := 0) (pcN := 1930) jI_379_1929 rfl ?_
  refine jT_lald (x := 0) (a := 2) (j := 0) (fs := []) (X := [0]) jI_379_1930 rfl rfl rfl rfl ?_
  refine jT_eq (LN := [(7, (1, 0)), (6, (0, 0)), (5, (0, 0)), (4, (4, 3)), (3, (4, 2)), (2, (4, 1)), (1, (4, 0)), (0, (6, 0))]) (stN := [(1, 0)]) (hsN := jpA_4079) rfl rfl rfl ?_
  refine jT_xlload (v := (1, 0)) (pcN := 1933) jI_379_1931 rfl rfl rfl ?_
  refine jT_lcmp (a := 0) (b := 0) (z := 0) (by rfl) (by rfl) (by decide +kernel) (by decide +kernel) (by decide) ?_
  refine jT_xifT (pcN := 1939) jI_379_1934 rfl (by decide +kernel) rfl ?_
  refine jT_xgoto (pcN := 3740) jI_379_1939 rfl ?_
  refine jT_xiinc (x := 0) (z := 5) (LN := [(5, (0, 5)), (7, (1, 0)), (6, (0, 0)), (4, (4, 3)), (3, (4, 2)), (2, (4, 1)), (1, (4, 0)), (0, (6, 0))]) (pcN := 3743) jI_379_3740 rfl rfl (by decide) rfl rfl ?_
  refine jT_xgoto (pcN := 28) jI_379_3743 rfl ?_
  refine jT_xiload (v := (0, 5)) (pcN := 30) jI_379_28 rfl rfl rfl ?_
  refine jT_xaload_n (v := (6, 0)) (pcN := 31) jI_379_30 rfl rfl rfl ?_
  refine jT_adv 1 (pcN := 32) (LN := [(5, (0, 5)), (7, (1, 0)), (6, (0, 0)), (4, (4, 3)), (3, (4, 2)), (2, (4, 1)), (1, (4, 0)), (0, (6, 0))]) (stN := [(0, 5), (0, 5)]) (hsN := jpA_4079) (c1 := 0) (s1 := 0) (c2 := 0) (s2 := 0) (by exact rfl) ?_ (by omega) (by omega)
  refine jT_xiconst (k := 5) (pcN := 33) jI_379_32 rfl ?_
  refine jT_xisub (x := 5) (y := 5) (z := 0) (pcN := 34) jI_379_33 rfl (by decide) rfl ?_
  refine jT_xicT (pcN := 3746) jI_379_34 rfl (by decide +kernel) rfl ?_
  refine jT_xiconst (k := 1) (pcN := 3747) jI_379_3746 rfl ?_
  exact jT_ret rfl (by decide) (by show 45 ≤ 55; decide) (by omega) (by omega) ⟨rfl, rfl⟩
set_option maxRecDepth 100000 in
theorem jL_22_27 {d : Nat} {x0 x1 x2 x3 x4 : Int} (h_x0 : (-2147483648) ≤ x0 ∧ x0 ≤ 2147483647) (h_x1 : 0 ≤ x1 ∧ x1 ≤ 7) (h_x2 : 8 ≤ x2 ∧ x2 ≤ 8) (h_x3 : 0 ≤ x3 ∧ x3 ≤ 0) (h_x4 : (-2147483648) ≤ x4 ∧ x4 ≤ 2147483647) : jT [x0, x1, x2, x3, x4] (d + 8) 379 45 1863 [(5, (0, 0)), (4, (4, 3)), (3, (4, 2)), (2, (4, 1)), (1, (4, 0)), (0, (6, 0))] [] jpA_4078 6 186 (fun k v hsN => k = 0 ∧ v = (0, 1)) := by
  refine jT_xaload_n (v := (4, 0)) (pcN := 1864) jI_379_1863 rfl rfl rfl ?_
  refine jT_xaload_n (v := (6, 0)) (pcN := 1865) jI_379_1864 rfl rfl rfl ?_
  refine jT_xiload (v := (0, 0)) (pcN := 1867) jI_379_1865 rfl rfl rfl ?_
  refine jT_xiconst (k := 1) (pcN := 1868) jI_379_1867 rfl ?_
  refine jT_xiadd (x := 0) (y := 1) (z := 1) (pcN := 1869) jI_379_1868 rfl (by decide) rfl ?_
  refine jT_adv 1 (pcN := 1870) (LN := [(5, (0, 0)), (4, (4, 3)), (3, (4, 2)), (2, (4, 1)), (1, (4, 0)), (0, (6, 0))]) (stN := [(0, x1), (4, 0)]) (hsN := jpA_4078) (c1 := 0) (s1 := 0) (c2 := 6) (s2 := 186) (by exact rfl) ?_ (by omega) (by omega)
  refine jT_xaload_n (v := (6, 0)) (pcN := 1871) jI_379_1870 rfl rfl rfl ?_
  refine jT_xiload (v := (0, 0)) (pcN := 1873) jI_379_1871 rfl rfl rfl ?_
  refine jT_xiconst (k := 2) (pcN := 1874) jI_379_1873 rfl ?_
  refine jT_xiadd (x := 0) (y := 2) (z := 2) (pcN := 1875) jI_379_1874 rfl (by decide) rfl ?_
  refine jT_adv 1 (pcN := 1876) (LN := [(5, (0, 0)), (4, (4, 3)), (3, (4, 2)), (2, (4, 1)), (1, (4, 0)), (0, (6, 0))]) (stN := [(0, x2), (0, x1), (4, 0)]) (hsN := jpA_4078) (c1 := 0) (s1 := 0) (c2 := 6) (s2 := 186) (by exact rfl) ?_ (by omega) (by omega)
  refine jT_eq (LN := [(5, (0, 0)), (4, (4, 3)), (3, (4, 2)), (2, (4, 1)), (1, (4, 0)), (0, (6, 0))]) (stN := [(0, 8), (0, x1), (4, 0)]) (hsN := [jzA_265, jzA_266, (101, [], [0]), jgh, (8, [(4, 30), (4, 31)], []), jgh, jgh, jgh, jgh, jgh, jgh, jgh, jgh, jgh, jzA_721, (100, [], jS0), jgh, jgh, jgh, jgh, (130, [], [37, 38, 39, 40, 41, 42]), (101, [], [0, 0, 0, 0, 0, 0]), jgh, jgh, jgh, jgh, jgh, jgh, jgh, jgh, jgh, jgh, jzA_324, jgh, jgh, jgh, jgh, (100, [], (jenc (jlg 0))), jgh, jgh, jgh, jgh, jgh, (4, [(4, 44), (1, 1)], []), (101, [], [0, 0, 0, 0, 0, 0])]) (rfl) (by simp only [List.cons.injEq, Prod.mk.injEq, and_true, true_and] <;> ((try unfold jw); (try unfold jwl); omega)) (rfl) ?_
  refine jT_xaload_n (v := (6, 0)) (pcN := 1877) jI_379_1876 rfl rfl rfl ?_
  refine jT_xiload (v := (0, 0)) (pcN := 1879) jI_379_1877 rfl rfl rfl ?_
  refine jT_xiconst (k := 3) (pcN := 1880) jI_379_1879 rfl ?_
  refine jT_xiadd (x := 0) (y := 3) (z := 3) (pcN := 1881) jI_379_1880 rfl (by decide) rfl ?_
  refine jT_adv 1 (pcN := 1882) (LN := [(5, (0, 0)), (4, (4, 3)), (3, (4, 2)), (2, (4, 1)), (1, (4, 0)), (0, (6, 0))]) (stN := [(0, x3), (0, 8), (0, x1), (4, 0)]) (hsN := jpA_4078) (c1 := 0) (s1 := 0) (c2 := 6) (s2 := 186) (by exact rfl) ?_ (by omega) (by omega)
  refine jT_eq (LN := [(5, (0, 0)), (4, (4, 3)), (3, (4, 2)), (2, (4, 1)), (1, (4, 0)), (0, (6, 0))]) (stN := [(0, 0), (0, 8), (0, x1), (4, 0)]) (hsN := [jzA_265, jzA_266, (101, [], [0]), jgh, (8, [(4, 30), (4, 31)], []), jgh, jgh, jgh, jgh, jgh, jgh, jgh, jgh, jgh, jzA_721, (100, [], jS0), jgh, jgh, jgh, jgh, (130, [], [37, 38, 39, 40, 41, 42]), (101, [], [0, 0, 0, 0, 0, 0]), jgh, jgh, jgh, jgh, jgh, jgh, jgh, jgh, jgh, jgh, jzA_324, jgh, jgh, jgh, jgh, (100, [], (jenc (jlg 0))), jgh, jgh, jgh, jgh, jgh, (4, [(4, 44), (1, 1)], []), (101, [], [0, 0, 0, 0, 0, 0])]) (rfl) (by simp only [List.cons.injEq, Prod.mk.injEq, and_true, true_and] <;> ((try unfold jw); (try unfold jwl); omega)) (rfl) ?_
  refine jT_xaload_n (v := (4, 2)) (pcN := 1883) jI_379_1882 rfl rfl rfl ?_
  refine jT_fR [0, 2, 4, 5, 6, 7, 8, 9, 10, 11, 12, 13, 14, 30, 31, 32, 33, 34, 35, 36, 43, 44] 45 (y := 347) (pcN := 1886) (dC := 5) (bc1 := 0) (bc2 := 0) (c1 := 6) (c2 := 186) (as := [(4, 0), (0, x1), (0, 8), (0, 0), (4, 2)]) (asC := [(4, 0), (0, x1), (0, 8), (0, 0), (4, 1)]) (LN := [(5, (0, 0)), (4, (4, 3)), (3, (4, 2)), (2, (4, 1)), (1, (4, 0)), (0, (6, 0))]) (stN := []) (hsC := jpA_4038) (v := (0, 0)) (st2 := [(0, 0)]) (jA_347_1488 (d := 0) (by omega)) (by rfl) (by rfl) (by decide +kernel) (by rfl) (by rfl) (by omega) (by omega) (by omega) (by omega) rfl ?_
  refine jT_xistore (v := (0, 0)) (LN := [(6, (0, 0)), (5, (0, 0)), (4, (4, 3)), (3, (4, 2)), (2, (4, 1)), (1, (4, 0)), (0, (6, 0))]) (pcN := 1888) jI_379_1886 rfl rfl rfl rfl ?_
  refine jT_xaload_n (v := (4, 1)) (pcN := 1889) jI_379_1888 rfl rfl rfl ?_
  refine jT_xaload_n (v := (6, 0)) (pcN := 1890) jI_379_1889 rfl rfl rfl ?_
  refine jT_xiload (v := (0, 0)) (pcN := 1892) jI_379_1890 rfl rfl rfl ?_
  refine jT_xiconst (k := 1) (pcN := 1893) jI_379_1892 rfl ?_
  refine jT_xiadd (x := 0) (y := 1) (z := 1) (pcN := 1894) jI_379_1893 rfl (by decide) rfl ?_
  refine jT_adv 1 (pcN := 1895) (LN := [(6, (0, 0)), (5, (0, 0)), (4, (4, 3)), (3, (4, 2)), (2, (4, 1)), (1, (4, 0)), (0, (6, 0))]) (stN := [(0, x1), (4, 1)]) (hsN := jpA_4078) (c1 := 0) (s1 := 0) (c2 := 6) (s2 := 186) (by exact rfl) ?_ (by omega) (by omega)
  refine jT_xaload_n (v := (6, 0)) (pcN := 1896) jI_379_1895 rfl rfl rfl ?_
  refine jT_xiload (v := (0, 0)) (pcN := 1898) jI_379_1896 rfl rfl rfl ?_
  refine jT_xiconst (k := 2) (pcN := 1899) jI_379_1898 rfl ?_
  refine jT_xiadd (x := 0) (y := 2) (z := 2) (pcN := 1900) jI_379_1899 rfl (by decide) rfl ?_
  refine jT_adv 1 (pcN := 1901) (LN := [(6, (0, 0)), (5, (0, 0)), (4, (4, 3)), (3, (4, 2)), (2, (4, 1)), (1, (4, 0)), (0, (6, 0))]) (stN := [(0, x2), (0, x1), (4, 1)]) (hsN := jpA_4078) (c1 := 0) (s1 := 0) (c2 := 6) (s2 := 186) (by exact rfl) ?_ (by omega) (by omega)
  refine jT_eq (LN := [(6, (0, 0)), (5, (0, 0)), (4, (4, 3)), (3, (4, 2)), (2, (4, 1)), (1, (4, 0)), (0, (6, 0))]) (stN := [(0, 8), (0, x1), (4, 1)]) (hsN := [jzA_265, jzA_266, (101, [], [0]), jgh, (8, [(4, 30), (4, 31)], []), jgh, jgh, jgh, jgh, jgh, jgh, jgh, jgh, jgh, jzA_721, (100, [], jS0), jgh, jgh, jgh, jgh, (130, [], [37, 38, 39, 40, 41, 42]), (101, [], [0, 0, 0, 0, 0, 0]), jgh, jgh, jgh, jgh, jgh, jgh, jgh, jgh, jgh, jgh, jzA_324, jgh, jgh, jgh, jgh, (100, [], (jenc (jlg 0))), jgh, jgh, jgh, jgh, jgh, (4, [(4, 44), (1, 1)], []), (101, [], [0, 0, 0, 0, 0, 0])]) (rfl) (by simp only [List.cons.injEq, Prod.mk.injEq, and_true, true_and] <;> ((try unfold jw); (try unfold jwl); omega)) (rfl) ?_
  refine jT_xaload_n (v := (6, 0)) (pcN := 1902) jI_379_1901 rfl rfl rfl ?_
  refine jT_xiload (v := (0, 0)) (pcN := 1904) jI_379_1902 rfl rfl rfl ?_
  refine jT_xiconst (k := 3) (pcN := 1905) jI_379_1904 rfl ?_
  refine jT_xiadd (x := 0) (y := 3) (z := 3) (pcN := 1906) jI_379_1905 rfl (by decide) rfl ?_
  refine jT_adv 1 (pcN := 1907) (LN := [(6, (0, 0)), (5, (0, 0)), (4, (4, 3)), (3, (4, 2)), (2, (4, 1)), (1, (4, 0)), (0, (6, 0))]) (stN := [(0, x3), (0, 8), (0, x1), (4, 1)]) (hsN := jpA_4078) (c1 := 0) (s1 := 0) (c2 := 6) (s2 := 186) (by exact rfl) ?_ (by omega) (by omega)
  refine jT_eq (LN := [(6, (0, 0)), (5, (0, 0)), (4, (4, 3)), (3, (4, 2)), (2, (4, 1)), (1, (4, 0)), (0, (6, 0))]) (stN := [(0, 0), (0, 8), (0, x1), (4, 1)]) (hsN := [jzA_265, jzA_266, (101, [], [0]), jgh, (8, [(4, 30), (4, 31)], []), jgh, jgh, jgh, jgh, jgh, jgh, jgh, jgh, jgh, jzA_721, (100, [], jS0), jgh, jgh, jgh, jgh, (130, [], [37, 38, 39, 40, 41, 42]), (101, [], [0, 0, 0, 0, 0, 0]), jgh, jgh, jgh, jgh, jgh, jgh, jgh, jgh, jgh, jgh, jzA_324, jgh, jgh, jgh, jgh, (100, [], (jenc (jlg 0))), jgh, jgh, jgh, jgh, jgh, (4, [(4, 44), (1, 1)], []), (101, [], [0, 0, 0, 0, 0, 0])]) (rfl) (by simp only [List.cons.injEq, Prod.mk.injEq, and_true, true_and] <;> ((try unfold jw); (try unfold jwl); omega)) (rfl) ?_
  refine jT_fA [1, 15, 16, 17, 18, 19, 20, 21, 22, 23, 24, 25, 26, 27, 28, 29, 37, 38, 39, 40, 41, 42] 45 (y := 263) (pcN := 1910) (dC := 7) (bc1 := 6) (bc2 := 186) (c1 := 0) (c2 := 0) (as := [(4, 1), (0, x1), (0, 8), (0, 0)]) (asC := [(4, 0), (0, x1), (0, 8), (0, 0)]) (LN := [(6, (0, 0)), (5, (0, 0)), (4, (4, 3)), (3, (4, 2)), (2, (4, 1)), (1, (4, 0)), (0, (6, 0))]) (stN := []) (hsC := jpA_1695) (ex := jpA_4341) (v := (1, 0)) (st2 := [(1, 0)]) (hs2 := jpA_4391) (jA_263_1493 (d := 0) (by omega)) (by rfl) (by rfl) (by decide +kernel) (by rfl) (by rfl) (by omega) (by omega) (by omega) (by omega) rfl (by decide +kernel) ?_
  refine jT_xlstore (v := (1, 0)) (LN := [(7, (1, 0)), (6, (0, 0)), (5, (0, 0)), (4, (4, 3)), (3, (4, 2)), (2, (4, 1)), (1, (4, 0)), (0, (6, 0))]) (pcN := 1912) jI_379_1910 rfl rfl rfl rfl ?_
  refine jT_xaload_n (v := (4, 1)) (pcN := 1913) jI_379_1912 rfl rfl rfl ?_
  refine jT_fR [1, 15, 16, 17, 18, 19, 20, 21, 22, 23, 24, 25, 26, 27, 28, 29] 51 (y := 186) (pcN := 1916) (dC := 0) (bc1 := 0) (bc2 := 0) (c1 := 0) (c2 := 0) (as := [(4, 1)]) (asC := [(4, 0)]) (LN := [(7, (1, 0)), (6, (0, 0)), (5, (0, 0)), (4, (4, 3)), (3, (4, 2)), (2, (4, 1)), (1, (4, 0)), (0, (6, 0))]) (stN := []) (hsC := jpA_22) (v := (0, 0)) (st2 := [(0, 0)]) (jA_186_726 (d := 0)) (by rfl) (by rfl) (by decide +kernel) (by rfl) (by rfl) (by omega) (by omega) (by omega) (by omega) rfl ?_
  refine jT_xiload (v := (0, 0)) (pcN := 1918) jI_379_1916 rfl rfl rfl ?_
  refine jT_xicT (pcN := 1923) jI_379_1918 rfl (by decide +kernel) rfl ?_
  refine jT_xiload (v := (0, 0)) (pcN := 1925) jI_379_1923 rfl rfl rfl ?_
  refine jT_xifF (t := 1939) (pcN := 1928) jI_379_1925 rfl (by decide +kernel) rfl rfl ?_
  refine jT_xaload_n (v := (4, 2)) (pcN := 1929) jI_379_1928 rfl rfl rfl ?_
  refine jT_xiconst (k := 0) (pcN := 1930) jI_379_1929 rfl ?_
  refine jT_lald (x := 0) (a := 2) (j := 0) (fs := []) (X := [0]) jI_379_1930 rfl rfl rfl rfl ?_
  refine jT_eq (LN := [(7, (1, 0)), (6, (0, 0)), (5, (0, 0)), (4, (4, 3)), (3, (4, 2)), (2, (4, 1)), (1, (4, 0)), (0, (6, 0))]) (stN := [(1, 0)]) (hsN := jpA_4391) rfl rfl rfl ?_
  refine jT_xlload (v := (1, 0)) (pcN := 1933) jI_379_1931 rfl rfl rfl ?_
  refine jT_lcmp (a := 0) (b := 0) (z := 0) (by rfl) (by rfl) (by decide +kernel) (by decide +kernel) (by decide) ?_
  refine jT_xifT (pcN := 1939) jI_379_1934 rfl (by decide +kernel) rfl ?_
  refine jT_xgoto (pcN := 3740) jI_379_1939 rfl ?_
  refine jT_xiinc (x := 0) (z := 5) (LN := [(5, (0, 5)), (7, (1, 0)), (6, (0, 0)), (4, (4, 3)), (3, (4, 2)), (2, (4, 1)), (1, (4, 0)), (0, (6, 0))]) (pcN := 3743) jI_379_3740 rfl rfl (by decide) rfl rfl ?_
  refine jT_xgoto (pcN := 28) jI_379_3743 rfl ?_
  refine jT_xiload (v := (0, 5)) (pcN := 30) jI_379_28 rfl rfl rfl ?_
  refine jT_xaload_n (v := (6, 0)) (pcN := 31) jI_379_30 rfl rfl rfl ?_
  refine jT_adv 1 (pcN := 32) (LN := [(5, (0, 5)), (7, (1, 0)), (6, (0, 0)), (4, (4, 3)), (3, (4, 2)), (2, (4, 1)), (1, (4, 0)), (0, (6, 0))]) (stN := [(0, 5), (0, 5)]) (hsN := jpA_4391) (c1 := 0) (s1 := 0) (c2 := 0) (s2 := 0) (by exact rfl) ?_ (by omega) (by omega)
  refine jT_xiconst (k := 5) (pcN := 33) jI_379_32 rfl ?_
  refine jT_xisub (x := 5) (y := 5) (z := 0) (pcN := 34) jI_379_33 rfl (by decide) rfl ?_
  refine jT_xicT (pcN := 3746) jI_379_34 rfl (by decide +kernel) rfl ?_
  refine jT_xiconst (k := 1) (pcN := 3747) jI_379_3746 rfl ?_
  exact jT_ret rfl (by decide) (by show 45 ≤ 51; decide) (by omega) (by omega) ⟨rfl, rfl⟩
set_option maxRecDepth 100000 in
theorem jL_22_28 {d : Nat} {x0 x1 x2 x3 x4 : Int} (h_x0 : (-2147483648) ≤ x0 ∧ x0 ≤ 2147483647) (h_x1 : 0 ≤ x1 ∧ x1 ≤ 7) (h_x2 : 8 ≤ x2 ∧ x2 ≤ 8) (h_x3 : 1 ≤ x3 ∧ x3 ≤ 1) (h_x4 : (-2147483648) ≤ x4 ∧ x4 ≤ 2147483647) : jT [x0, x1, x2, x3, x4] (d + 8) 379 45 1863 [(5, (0, 0)), (4, (4, 3)), (3, (4, 2)), (2, (4, 1)), (1, (4, 0)), (0, (6, 0))] [] jpA_4078 9 200 (fun k v hsN => k = 0 ∧ v = (0, 1)) := by
  refine jT_xaload_n (v := (4, 0)) (pcN := 1864) jI_379_1863 rfl rfl rfl ?_
  refine jT_xaload_n (v := (6, 0)) (pcN := 1865) jI_379_1864 rfl rfl rfl ?_
  refine jT_xiload (v := (0, 0)) (pcN := 1867) jI_379_1865 rfl rfl rfl ?_
  refine jT_xiconst (k := 1) (pcN := 1868) jI_379_1867 rfl ?_
  refine jT_xiadd (x := 0) (y := 1) (z := 1) (pcN := 1869) jI_379_1868 rfl (by decide) rfl ?_
  refine jT_adv 1 (pcN := 1870) (LN := [(5, (0, 0)), (4, (4, 3)), (3, (4, 2)), (2, (4, 1)), (1, (4, 0)), (0, (6, 0))]) (stN := [(0, x1), (4, 0)]) (hsN := jpA_4078) (c1 := 0) (s1 := 0) (c2 := 9) (s2 := 200) (by exact rfl) ?_ (by omega) (by omega)
  refine jT_xaload_n (v := (6, 0)) (pcN := 1871) jI_379_1870 rfl rfl rfl ?_
  refine jT_xiload (v := (0, 0)) (pcN := 1873) jI_379_1871 rfl rfl rfl ?_
  refine jT_xiconst (k := 2) (pcN := 1874) jI_379_1873 rfl ?_
  refine jT_xiadd (x := 0) (y := 2) (z := 2) (pcN := 1875) jI_379_1874 rfl (by decide) rfl ?_
  refine jT_adv 1 (pcN := 1876) (LN := [(5, (0, 0)), (4, (4, 3)), (3, (4, 2)), (2, (4, 1)), (1, (4, 0)), (0, (6, 0))]) (stN := [(0, x2), (0, x1), (4, 0)]) (hsN := jpA_4078) (c1 := 0) (s1 := 0) (c2 := 9) (s2 := 200) (by exact rfl) ?_ (by omega) (by omega)
  refine jT_eq (LN := [(5, (0, 0)), (4, (4, 3)), (3, (4, 2)), (2, (4, 1)), (1, (4, 0)), (0, (6, 0))]) (stN := [(0, 8), (0, x1), (4, 0)]) (hsN := [jzA_265, jzA_266, (101, [], [0]), jgh, (8, [(4, 30), (4, 31)], []), jgh, jgh, jgh, jgh, jgh, jgh, jgh, jgh, jgh, jzA_721, (100, [], jS0), jgh, jgh, jgh, jgh, (130, [], [37, 38, 39, 40, 41, 42]), (101, [], [0, 0, 0, 0, 0, 0]), jgh, jgh, jgh, jgh, jgh, jgh, jgh, jgh, jgh, jgh, jzA_324, jgh, jgh, jgh, jgh, (100, [], (jenc (jlg 0))), jgh, jgh, jgh, jgh, jgh, (4, [(4, 44), (1, 1)], []), (101, [], [0, 0, 0, 0, 0, 0])]) (rfl) (by simp only [List.cons.injEq, Prod.mk.injEq, and_true, true_and] <;> ((try unfold jw); (try unfold jwl); omega)) (rfl) ?_
  refine jT_xaload_n (v := (6, 0)) (pcN := 1877) jI_379_1876 rfl rfl rfl ?_
  refine jT_xiload (v := (0, 0)) (pcN := 1879) jI_379_1877 rfl rfl rfl ?_
  refine jT_xiconst (k := 3) (pcN := 1880) jI_379_1879 rfl ?_
  refine jT_xiadd (x := 0) (y := 3) (z := 3) (pcN := 1881) jI_379_1880 rfl (by decide) rfl ?_
  refine jT_adv 1 (pcN := 1882) (LN := [(5, (0, 0)), (4, (4, 3)), (3, (4, 2)), (2, (4, 1)), (1, (4, 0)), (0, (6, 0))]) (stN := [(0, x3), (0, 8), (0, x1), (4, 0)]) (hsN := jpA_4078) (c1 := 0) (s1 := 0) (c2 := 9) (s2 := 200) (by exact rfl) ?_ (by omega) (by omega)
  refine jT_eq (LN := [(5, (0, 0)), (4, (4, 3)), (3, (4, 2)), (2, (4, 1)), (1, (4, 0)), (0, (6, 0))]) (stN := [(0, 1), (0, 8), (0, x1), (4, 0)]) (hsN := [jzA_265, jzA_266, (101, [], [0]), jgh, (8, [(4, 30), (4, 31)], []), jgh, jgh, jgh, jgh, jgh, jgh, jgh, jgh, jgh, jzA_721, (100, [], jS0), jgh, jgh, jgh, jgh, (130, [], [37, 38, 39, 40, 41, 42]), (101, [], [0, 0, 0, 0, 0, 0]), jgh, jgh, jgh, jgh, jgh, jgh, jgh, jgh, jgh, jgh, jzA_324, jgh, jgh, jgh, jgh, (100, [], (jenc (jlg 0))), jgh, jgh, jgh, jgh, jgh, (4, [(4, 44), (1, 1)], []), (101, [], [0, 0, 0, 0, 0, 0])]) (rfl) (by simp only [List.cons.injEq, Prod.mk.injEq, and_true, true_and] <;> ((try unfold jw); (try unfold jwl); omega)) (rfl) ?_
  refine jT_xaload_n (v := (4, 2)) (pcN := 1883) jI_379_1882 rfl rfl rfl ?_
  refine jT_fA [0, 2, 4, 5, 6, 7, 8, 9, 10, 11, 12, 13, 14, 30, 31, 32, 33, 34, 35, 36, 43, 44] 45 (y := 347) (pcN := 1886) (dC := 5) (bc1 := 2) (bc2 := 8) (c1 := 7) (c2 := 192) (as := [(4, 0), (0, x1), (0, 8), (0, 1), (4, 2)]) (asC := [(4, 0), (0, x1), (0, 8), (0, 1), (4, 1)]) (LN := [(5, (0, 0)), (4, (4, 3)), (3, (4, 2)), (2, (4, 1)), (1, (4, 0)), (0, (6, 0))]) (stN := []) (hsC := jpA_4038) (ex := [(101, [], [0, 0, 0, 0, 0, 0]), (4, [(4, 22), (1, 1)], [])]) (v := (0, 0)) (st2 := [(0, 0)]) (hs2 := jpA_4397) (jA_347_1496 (d := 0) (by omega)) (by rfl) (by rfl) (by decide +kernel) (by rfl) (by rfl) (by omega) (by omega) (by omega) (by omega) rfl (by decide +kernel) ?_
  refine jT_xistore (v := (0, 0)) (LN := [(6, (0, 0)), (5, (0, 0)), (4, (4, 3)), (3, (4, 2)), (2, (4, 1)), (1, (4, 0)), (0, (6, 0))]) (pcN := 1888) jI_379_1886 rfl rfl rfl rfl ?_
  refine jT_xaload_n (v := (4, 1)) (pcN := 1889) jI_379_1888 rfl rfl rfl ?_
  refine jT_xaload_n (v := (6, 0)) (pcN := 1890) jI_379_1889 rfl rfl rfl ?_
  refine jT_xiload (v := (0, 0)) (pcN := 1892) jI_379_1890 rfl rfl rfl ?_
  refine jT_xiconst (k := 1) (pcN := 1893) jI_379_1892 rfl ?_
  refine jT_xiadd (x := 0) (y := 1) (z := 1) (pcN := 1894) jI_379_1893 rfl (by decide) rfl ?_
  refine jT_adv 1 (pcN := 1895) (LN := [(6, (0, 0)), (5, (0, 0)), (4, (4, 3)), (3, (4, 2)), (2, (4, 1)), (1, (4, 0)), (0, (6, 0))]) (stN := [(0, x1), (4, 1)]) (hsN := jpA_4397) (c1 := 0) (s1 := 0) (c2 := 7) (s2 := 192) (by exact rfl) ?_ (by omega) (by omega)
  refine jT_xaload_n (v := (6, 0)) (pcN := 1896) jI_379_1895 rfl rfl rfl ?_
  refine jT_xiload (v := (0, 0)) (pcN := 1898) jI_379_1896 rfl rfl rfl ?_
  refine jT_xiconst (k := 2) (pcN := 1899) jI_379_1898 rfl ?_
  refine jT_xiadd (x := 0) (y := 2) (z := 2) (pcN := 1900) jI_379_1899 rfl (by decide) rfl ?_
  refine jT_adv 1 (pcN := 1901) (LN := [(6, (0, 0)), (5, (0, 0)), (4, (4, 3)), (3, (4, 2)), (2, (4, 1)), (1, (4, 0)), (0, (6, 0))]) (stN := [(0, x2), (0, x1), (4, 1)]) (hsN := jpA_4397) (c1 := 0) (s1 := 0) (c2 := 7) (s2 := 192) (by exact rfl) ?_ (by omega) (by omega)
  refine jT_eq (LN := [(6, (0, 0)), (5, (0, 0)), (4, (4, 3)), (3, (4, 2)), (2, (4, 1)), (1, (4, 0)), (0, (6, 0))]) (stN := [(0, 8), (0, x1), (4, 1)]) (hsN := [jzA_265, jzA_266, (101, [], [0]), jgh, (8, [(4, 30), (4, 31)], []), jgh, jgh, jgh, jgh, jgh, jgh, jgh, jgh, jgh, jzA_721, (100, [], jS0), jgh, jgh, jgh, jgh, (130, [], [37, 38, 39, 40, 41, 42]), (101, [], [0, 0, 0, 0, 0, 0]), jgh, jgh, jgh, jgh, jgh, jgh, jgh, jgh, jgh, jgh, jzA_324, jgh, jgh, jgh, jgh, (100, [], (jenc (jlg 0))), jgh, jgh, jgh, jgh, jgh, (4, [(4, 44), (1, 1)], []), (101, [], [0, 0, 0, 0, 0, 0]), (101, [], [0, 0, 0, 0, 0, 0]), (4, [(4, 45), (1, 1)], [])]) (rfl) (by simp only [List.cons.injEq, Prod.mk.injEq, and_true, true_and] <;> ((try unfold jw); (try unfold jwl); omega)) (rfl) ?_
  refine jT_xaload_n (v := (6, 0)) (pcN := 1902) jI_379_1901 rfl rfl rfl ?_
  refine jT_xiload (v := (0, 0)) (pcN := 1904) jI_379_1902 rfl rfl rfl ?_
  refine jT_xiconst (k := 3) (pcN := 1905) jI_379_1904 rfl ?_
  refine jT_xiadd (x := 0) (y := 3) (z := 3) (pcN := 1906) jI_379_1905 rfl (by decide) rfl ?_
  refine jT_adv 1 (pcN := 1907) (LN := [(6, (0, 0)), (5, (0, 0)), (4, (4, 3)), (3, (4, 2)), (2, (4, 1)), (1, (4, 0)), (0, (6, 0))]) (stN := [(0, x3), (0, 8), (0, x1), (4, 1)]) (hsN := jpA_4397) (c1 := 0) (s1 := 0) (c2 := 7) (s2 := 192) (by exact rfl) ?_ (by omega) (by omega)
  refine jT_eq (LN := [(6, (0, 0)), (5, (0, 0)), (4, (4, 3)), (3, (4, 2)), (2, (4, 1)), (1, (4, 0)), (0, (6, 0))]) (stN := [(0, 1), (0, 8), (0, x1), (4, 1)]) (hsN := [jzA_265, jzA_266, (101, [], [0]), jgh, (8, [(4, 30), (4, 31)], []), jgh, jgh, jgh, jgh, jgh, jgh, jgh, jgh, jgh, jzA_721, (100, [], jS0), jgh, jgh, jgh, jgh, (130, [], [37, 38, 39, 40, 41, 42]), (101, [], [0, 0, 0, 0, 0, 0]), jgh, jgh, jgh, jgh, jgh, jgh, jgh, jgh, jgh, jgh, jzA_324, jgh, jgh, jgh, jgh, (100, [], (jenc (jlg 0))), jgh, jgh, jgh, jgh, jgh, (4, [(4, 44), (1, 1)], []), (101, [], [0, 0, 0, 0, 0, 0]), (101, [], [0, 0, 0, 0, 0, 0]), (4, [(4, 45), (1, 1)], [])]) (rfl) (by simp only [List.cons.injEq, Prod.mk.injEq, and_true, true_and] <;> ((try unfold jw); (try unfold jwl); omega)) (rfl) ?_
  refine jT_fA [1, 15, 16, 17, 18, 19, 20, 21, 22, 23, 24, 25, 26, 27, 28, 29, 37, 38, 39, 40, 41, 42] 47 (y := 263) (pcN := 1910) (dC := 7) (bc1 := 7) (bc2 := 192) (c1 := 0) (c2 := 0) (as := [(4, 1), (0, x1), (0, 8), (0, 1)]) (asC := [(4, 0), (0, x1), (0, 8), (0, 1)]) (LN := [(6, (0, 0)), (5, (0, 0)), (4, (4, 3)), (3, (4, 2)), (2, (4, 1)), (1, (4, 0)), (0, (6, 0))]) (stN := []) (hsC := jpA_1695) (ex := jpA_4354) (v := (1, 0)) (st2 := [(1, 0)]) (hs2 := jpA_4398) (jA_263_1498 (d := 0) (by omega)) (by rfl) (by rfl) (by decide +kernel) (by rfl) (by rfl) (by omega) (by omega) (by omega) (by omega) rfl (by decide +kernel) ?_
  refine jT_xlstore (v := (1, 0)) (LN := [(7, (1, 0)), (6, (0, 0)), (5, (0, 0)), (4, (4, 3)), (3, (4, 2)), (2, (4, 1)), (1, (4, 0)), (0, (6, 0))]) (pcN := 1912) jI_379_1910 rfl rfl rfl rfl ?_
  refine jT_xaload_n (v := (4, 1)) (pcN := 1913) jI_379_1912 rfl rfl rfl ?_
  refine jT_fR [1, 15, 16, 17, 18, 19, 20, 21, 22, 23, 24, 25, 26, 27, 28, 29] 54 (y := 186) (pcN := 1916) (dC := 0) (bc1 := 0) (bc2 := 0) (c1 := 0) (c2 := 0) (as := [(4, 1)]) (asC := [(4, 0)]) (LN := [(7, (1, 0)), (6, (0, 0)), (5, (0, 0)), (4, (4, 3)), (3, (4, 2)), (2, (4, 1)), (1, (4, 0)), (0, (6, 0))]) (stN := []) (hsC := jpA_22) (v := (0, 0)) (st2 := [(0, 0)]) (jA_186_726 (d := 0)) (by rfl) (by rfl) (by decide +kernel) (by rfl) (by rfl) (by omega) (by omega) (by omega) (by omega) rfl ?_
  refine jT_xiload (v := (0, 0)) (pcN := 1918) jI_379_1916 rfl rfl rfl ?_
  refine jT_xicT (pcN := 1923) jI_379_1918 rfl (by decide +kernel) rfl ?_
  refine jT_xiload (v := (0, 0)) (pcN := 1925) jI_379_1923 rfl rfl rfl ?_
  refine jT_xifF (t := 1939) (pcN := 1928) jI_379_1925 rfl (by decide +kernel) rfl rfl ?_
  refine jT_xaload_n (v := (4, 2)) (pcN := 1929) jI_379_1928 rfl rfl rfl ?_
  refine jT_xiconst (k := 0) (pcN := 1930) jI_379_1929 rfl ?_
  refine jT_lald (x := 0) (a := 2) (j := 0) (fs := []) (X := [0]) jI_379_1930 rfl rfl rfl rfl ?_
  refine jT_eq (LN := [(7, (1, 0)), (6, (0, 0)), (5, (0, 0)), (4, (4, 3)), (3, (4, 2)), (2, (4, 1)), (1, (4, 0)), (0, (6, 0))]) (stN := [(1, 0)]) (hsN := jpA_4398) rfl rfl rfl ?_
  refine jT_xlload (v := (1, 0)) (pcN := 1933) jI_379_1931 rfl rfl rfl ?_
  refine jT_lcmp (a := 0) (b := 0) (z := 0) (by rfl) (by rfl) (by decide +kernel) (by decide +kernel) (by decide) ?_
  refine jT_xifT (pcN := 1939) jI_379_1934 rfl (by decide +kernel) rfl ?_
  refine jT_xgoto (pcN := 3740) jI_379_1939 rfl ?_
  refine jT_xiinc (x := 0) (z := 5) (LN := [(5, (0, 5)), (7, (1, 0)), (6, (0, 0)), (4, (4, 3)), (3, (4, 2)), (2, (4, 1)), (1, (4, 0)), (0, (6, 0))]) (pcN := 3743) jI_379_3740 rfl rfl (by decide) rfl rfl ?_
  refine jT_xgoto (pcN := 28) jI_379_3743 rfl ?_
  refine jT_xiload (v := (0, 5)) (pcN := 30) jI_379_28 rfl rfl rfl ?_
  refine jT_xaload_n (v := (6, 0)) (pcN := 31) jI_379_30 rfl rfl rfl ?_
  refine jT_adv 1 (pcN := 32) (LN := [(5, (0, 5)), (7, (1, 0)), (6, (0, 0)), (4, (4, 3)), (3, (4, 2)), (2, (4, 1)), (1, (4, 0)), (0, (6, 0))]) (stN := [(0, 5), (0, 5)]) (hsN := jpA_4398) (c1 := 0) (s1 := 0) (c2 := 0) (s2 := 0) (by exact rfl) ?_ (by omega) (by omega)
  refine jT_xiconst (k := 5) (pcN := 33) jI_379_32 rfl ?_
  refine jT_xisub (x := 5) (y := 5) (z := 0) (pcN := 34) jI_379_33 rfl (by decide) rfl ?_
  refine jT_xicT (pcN := 3746) jI_379_34 rfl (by decide +kernel) rfl ?_
  refine jT_xiconst (k := 1) (pcN := 3747) jI_379_3746 rfl ?_
  exact jT_ret rfl (by decide) (by show 45 ≤ 54; decide) (by omega) (by omega) ⟨rfl, rfl⟩
set_option maxRecDepth 100000 in
theorem jL_22_29 {d : Nat} {x0 x1 x2 x3 x4 : Int} (h_x0 : (-2147483648) ≤ x0 ∧ x0 ≤ 2147483647) (h_x1 : 0 ≤ x1 ∧ x1 ≤ 7) (h_x2 : 8 ≤ x2 ∧ x2 ≤ 8) (h_x3 : 2 ≤ x3 ∧ x3 ≤ 2) (h_x4 : (-2147483648) ≤ x4 ∧ x4 ≤ 2147483647) : jT [x0, x1, x2, x3, x4] (d + 9) 379 45 1863 [(5, (0, 0)), (4, (4, 3)), (3, (4, 2)), (2, (4, 1)), (1, (4, 0)), (0, (6, 0))] [] jpA_4078 10 360 (fun k v hsN => k = 0 ∧ v = (0, 1)) := by
  refine jT_xaload_n (v := (4, 0)) (pcN := 1864) jI_379_1863 rfl rfl rfl ?_
  refine jT_xaload_n (v := (6, 0)) (pcN := 1865) jI_379_1864 rfl rfl rfl ?_
  refine jT_xiload (v := (0, 0)) (pcN := 1867) jI_379_1865 rfl rfl rfl ?_
  refine jT_xiconst (k := 1) (pcN := 1868) jI_379_1867 rfl ?_
  refine jT_xiadd (x := 0) (y := 1) (z := 1) (pcN := 1869) jI_379_1868 rfl (by decide) rfl ?_
  refine jT_adv 1 (pcN := 1870) (LN := [(5, (0, 0)), (4, (4, 3)), (3, (4, 2)), (2, (4, 1)), (1, (4, 0)), (0, (6, 0))]) (stN := [(0, x1), (4, 0)]) (hsN := jpA_4078) (c1 := 0) (s1 := 0) (c2 := 10) (s2 := 360) (by exact rfl) ?_ (by omega) (by omega)
  refine jT_xaload_n (v := (6, 0)) (pcN := 1871) jI_379_1870 rfl rfl rfl ?_
  refine jT_xiload (v := (0, 0)) (pcN := 1873) jI_379_1871 rfl rfl rfl ?_
  refine jT_xiconst (k := 2) (pcN := 1874) jI_379_1873 rfl ?_
  refine jT_xiadd (x := 0) (y := 2) (z := 2) (pcN := 1875) jI_379_1874 rfl (by decide) rfl ?_
  refine jT_adv 1 (pcN := 1876) (LN := [(5, (0, 0)), (4, (4, 3)), (3, (4, 2)), (2, (4, 1)), (1, (4, 0)), (0, (6, 0))]) (stN := [(0, x2), (0, x1), (4, 0)]) (hsN := jpA_4078) (c1 := 0) (s1 := 0) (c2 := 10) (s2 := 360) (by exact rfl) ?_ (by omega) (by omega)
  refine jT_eq (LN := [(5, (0, 0)), (4, (4, 3)), (3, (4, 2)), (2, (4, 1)), (1, (4, 0)), (0, (6, 0))]) (stN := [(0, 8), (0, x1), (4, 0)]) (hsN := [jzA_265, jzA_266, (101, [], [0]), jgh, (8, [(4, 30), (4, 31)], []), jgh, jgh, jgh, jgh, jgh, jgh, jgh, jgh, jgh, jzA_721, (100, [], jS0), jgh, jgh, jgh, jgh, (130, [], [37, 38, 39, 40, 41, 42]), (101, [], [0, 0, 0, 0, 0, 0]), jgh, jgh, jgh, jgh, jgh, jgh, jgh, jgh, jgh, jgh, jzA_324, jgh, jgh, jgh, jgh, (100, [], (jenc (jlg 0))), jgh, jgh, jgh, jgh, jgh, (4, [(4, 44), (1, 1)], []), (101, [], [0, 0, 0, 0, 0, 0])]) (rfl) (by simp only [List.cons.injEq, Prod.mk.injEq, and_true, true_and] <;> ((try unfold jw); (try unfold jwl); omega)) (rfl) ?_
  refine jT_xaload_n (v := (6, 0)) (pcN := 1877) jI_379_1876 rfl rfl rfl ?_
  refine jT_xiload (v := (0, 0)) (pcN := 1879) jI_379_1877 rfl rfl rfl ?_
  refine jT_xiconst (k := 3) (pcN := 1880) jI_379_1879 rfl ?_
  refine jT_xiadd (x := 0) (y := 3) (z := 3) (pcN := 1881) jI_379_1880 rfl (by decide) rfl ?_
  refine jT_adv 1 (pcN := 1882) (LN := [(5, (0, 0)), (4, (4, 3)), (3, (4, 2)), (2, (4, 1)), (1, (4, 0)), (0, (6, 0))]) (stN := [(0, x3), (0, 8), (0, x1), (4, 0)]) (hsN := jpA_4078) (c1 := 0) (s1 := 0) (c2 := 10) (s2 := 360) (by exact rfl) ?_ (by omega) (by omega)
  refine jT_eq (LN := [(5, (0, 0)), (4, (4, 3)), (3, (4, 2)), (2, (4, 1)), (1, (4, 0)), (0, (6, 0))]) (stN := [(0, 2), (0, 8), (0, x1), (4, 0)]) (hsN := [jzA_265, jzA_266, (101, [], [0]), jgh, (8, [(4, 30), (4, 31)], []), jgh, jgh, jgh, jgh, jgh, jgh, jgh, jgh, jgh, jzA_721, (100, [], jS0), jgh, jgh, jgh, jgh, (130, [], [37, 38, 39, 40, 41, 42]), (101, [], [0, 0, 0, 0, 0, 0]), jgh, jgh, jgh, jgh, jgh, jgh, jgh, jgh, jgh, jgh, jzA_324, jgh, jgh, jgh, jgh, (100, [], (jenc (jlg 0))), jgh, jgh, jgh, jgh, jgh, (4, [(4, 44), (1, 1)], []), (101, [], [0, 0, 0, 0, 0, 0])]) (rfl) (by simp only [List.cons.injEq, Prod.mk.injEq, and_true, true_and] <;> ((try unfold jw); (try unfold jwl); omega)) (rfl) ?_
  refine jT_xaload_n (v := (4, 2)) (pcN := 1883) jI_379_1882 rfl rfl rfl ?_
  refine jT_fR [0, 2, 4, 5, 6, 7, 8, 9, 10, 11, 12, 13, 14, 30, 31, 32, 33, 34, 35, 36, 43, 44] 45 (y := 347) (pcN := 1886) (dC := 6) (bc1 := 0) (bc2 := 0) (c1 := 10) (c2 := 360) (as := [(4, 0), (0, x1), (0, 8), (0, 2), (4, 2)]) (asC := [(4, 0), (0, x1), (0, 8), (0, 2), (4, 1)]) (LN := [(5, (0, 0)), (4, (4, 3)), (3, (4, 2)), (2, (4, 1)), (1, (4, 0)), (0, (6, 0))]) (stN := []) (hsC := jpA_4038) (v := (0, 0)) (st2 := [(0, 0)]) (jA_347_1504 (d := 0) (by omega)) (by rfl) (by rfl) (by decide +kernel) (by rfl) (by rfl) (by omega) (by omega) (by omega) (by omega) rfl ?_
  refine jT_xistore (v := (0, 0)) (LN := [(6, (0, 0)), (5, (0, 0)), (4, (4, 3)), (3, (4, 2)), (2, (4, 1)), (1, (4, 0)), (0, (6, 0))]) (pcN := 1888) jI_379_1886 rfl rfl rfl rfl ?_
  refine jT_xaload_n (v := (4, 1)) (pcN := 1889) jI_379_1888 rfl rfl rfl ?_
  refine jT_xaload_n (v := (6, 0)) (pcN := 1890) jI_379_1889 rfl rfl rfl ?_
  refine jT_xiload (v := (0, 0)) (pcN := 1892) jI_379_1890 rfl rfl rfl ?_
  refine jT_xiconst (k := 1) (pcN := 1893) jI_379_1892 rfl ?_
  refine jT_xiadd (x := 0) (y := 1) (z := 1) (pcN := 1894) jI_379_1893 rfl (by decide) rfl ?_
  refine jT_adv 1 (pcN := 1895) (LN := [(6, (0, 0)), (5, (0, 0)), (4, (4, 3)), (3, (4, 2)), (2, (4, 1)), (1, (4, 0)), (0, (6, 0))]) (stN := [(0, x1), (4, 1)]) (hsN := jpA_4078) (c1 := 0) (s1 := 0) (c2 := 10) (s2 := 360) (by exact rfl) ?_ (by omega) (by omega)
  refine jT_xaload_n (v := (6, 0)) (pcN := 1896) jI_379_1895 rfl rfl rfl ?_
  refine jT_xiload (v := (0, 0)) (pcN := 1898) jI_379_1896 rfl rfl rfl ?_
  refine jT_xiconst (k := 2) (pcN := 1899) jI_379_1898 rfl ?_
  refine jT_xiadd (x := 0) (y := 2) (z := 2) (pcN := 1900) jI_379_1899 rfl (by decide) rfl ?_
  refine jT_adv 1 (pcN := 1901) (LN := [(6, (0, 0)), (5, (0, 0)), (4, (4, 3)), (3, (4, 2)), (2, (4, 1)), (1, (4, 0)), (0, (6, 0))]) (stN := [(0, x2), (0, x1), (4, 1)]) (hsN := jpA_4078) (c1 := 0) (s1 := 0) (c2 := 10) (s2 := 360) (by exact rfl) ?_ (by omega) (by omega)
  refine jT_eq (LN := [(6, (0, 0)), (5, (0, 0)), (4, (4, 3)), (3, (4, 2)), (2, (4, 1)), (1, (4, 0)), (0, (6, 0))]) (stN := [(0, 8), (0, x1), (4, 1)]) (hsN := [jzA_265, jzA_266, (101, [], [0]), jgh, (8, [(4, 30), (4, 31)], []), jgh, jgh, jgh, jgh, jgh, jgh, jgh, jgh, jgh, jzA_721, (100, [], jS0), jgh, jgh, jgh, jgh, (130, [], [37, 38, 39, 40, 41, 42]), (101, [], [0, 0, 0, 0, 0, 0]), jgh, jgh, jgh, jgh, jgh, jgh, jgh, jgh, jgh, jgh, jzA_324, jgh, jgh, jgh, jgh, (100, [], (jenc (jlg 0))), jgh, jgh, jgh, jgh, jgh, (4, [(4, 44), (1, 1)], []), (101, [], [0, 0, 0, 0, 0, 0])]) (rfl) (by simp only [List.cons.injEq, Prod.mk.injEq, and_true, true_and] <;> ((try unfold jw); (try unfold jwl); omega)) (rfl) ?_
  refine jT_xaload_n (v := (6, 0)) (pcN := 1902) jI_379_1901 rfl rfl rfl ?_
  refine jT_xiload (v := (0, 0)) (pcN := 1904) jI_379_1902 rfl rfl rfl ?_
  refine jT_xiconst (k := 3) (pcN := 1905) jI_379_1904 rfl ?_
  refine jT_xiadd (x := 0) (y := 3) (z := 3) (pcN := 1906) jI_379_1905 rfl (by decide) rfl ?_
  refine jT_adv 1 (pcN := 1907) (LN := [(6, (0, 0)), (5, (0, 0)), (4, (4, 3)), (3, (4, 2)), (2, (4, 1)), (1, (4, 0)), (0, (6, 0))]) (stN := [(0, x3), (0, 8), (0, x1), (4, 1)]) (hsN := jpA_4078) (c1 := 0) (s1 := 0) (c2 := 10) (s2 := 360) (by exact rfl) ?_ (by omega) (by omega)
  refine jT_eq (LN := [(6, (0, 0)), (5, (0, 0)), (4, (4, 3)), (3, (4, 2)), (2, (4, 1)), (1, (4, 0)), (0, (6, 0))]) (stN := [(0, 2), (0, 8), (0, x1), (4, 1)]) (hsN := [jzA_265, jzA_266, (101, [], [0]), jgh, (8, [(4, 30), (4, 31)], []), jgh, jgh, jgh, jgh, jgh, jgh, jgh, jgh, jgh, jzA_721, (100, [], jS0), jgh, jgh, jgh, jgh, (130, [], [37, 38, 39, 40, 41, 42]), (101, [], [0, 0, 0, 0, 0, 0]), jgh, jgh, jgh, jgh, jgh, jgh, jgh, jgh, jgh, jgh, jzA_324, jgh, jgh, jgh, jgh, (100, [], (jenc (jlg 0))), jgh, jgh, jgh, jgh, jgh, (4, [(4, 44), (1, 1)], []), (101, [], [0, 0, 0, 0, 0, 0])]) (rfl) (by simp only [List.cons.injEq, Prod.mk.injEq, and_true, true_and] <;> ((try unfold jw); (try unfold jwl); omega)) (rfl) ?_
  refine jT_fA [1, 15, 16, 17, 18, 19, 20, 21, 22, 23, 24, 25, 26, 27, 28, 29, 37, 38, 39, 40, 41, 42] 45 (y := 263) (pcN := 1910) (dC := 8) (bc1 := 10) (bc2 := 360) (c1 := 0) (c2 := 0) (as := [(4, 1), (0, x1), (0, 8), (0, 2)]) (asC := [(4, 0), (0, x1), (0, 8), (0, 2)]) (LN := [(6, (0, 0)), (5, (0, 0)), (4, (4, 3)), (3, (4, 2)), (2, (4, 1)), (1, (4, 0)), (0, (6, 0))]) (stN := []) (hsC := jpA_1695) (ex := jpA_3654) (v := (1, 0)) (st2 := [(1, 0)]) (hs2 := jpA_4079) (jA_263_1506 (d := 0) (by omega)) (by rfl) (by rfl) (by decide +kernel) (by rfl) (by rfl) (by omega) (by omega) (by omega) (by omega) rfl (by decide +kernel) ?_
  refine jT_xlstore (v := (1, 0)) (LN := [(7, (1, 0)), (6, (0, 0)), (5, (0, 0)), (4, (4, 3)), (3, (4, 2)), (2, (4, 1)), (1, (4, 0)), (0, (6, 0))]) (pcN := 1912) jI_379_1910 rfl rfl rfl rfl ?_
  refine jT_xaload_n (v := (4, 1)) (pcN := 1913) jI_379_1912 rfl rfl rfl ?_
  refine jT_fR [1, 15, 16, 17, 18, 19, 20, 21, 22, 23, 24, 25, 26, 27, 28, 29] 55 (y := 186) (pcN := 1916) (dC := 0) (bc1 := 0) (bc2 := 0) (c1 := 0) (c2 := 0) (as := [(4, 1)]) (asC := [(4, 0)]) (LN := [(7, (1, 0)), (6, (0, 0)), (5, (0, 0)), (4, (4, 3)), (3, (4, 2)), (2, (4, 1)), (1, (4, 0)), (0, (6, 0))]) (stN := []) (hsC := jpA_22) (v := (0, 0)) (st2 := [(0, 0)]) (jA_186_726 (d := 0)) (by rfl) (by rfl) (by decide +kernel) (by rfl) (by rfl) (by omega) (by omega) (by omega) (by omega) rfl ?_
  refine jT_xiload (v := (0, 0)) (pcN := 1918) jI_379_1916 rfl rfl rfl ?_
  refine jT_xicT (pcN := 1923) jI_379_1918 rfl (by decide +kernel) rfl ?_
  refine jT_xiload (v := (0, 0)) (pcN := 1925) jI_379_1923 rfl rfl rfl ?_
  refine jT_xifF (t := 1939) (pcN := 1928) jI_379_1925 rfl (by decide +kernel) rfl rfl ?_
  refine jT_xaload_n (v := (4, 2)) (pcN := 1929) jI_379_1928 rfl rfl rfl ?_
  refine jT_xiconst (k := 0) (pcN := 1930) jI_379_1929 rfl ?_
  refine jT_lald (x := 0) (a := 2) (j := 0) (fs := []) (X := [0]) jI_379_1930 rfl rfl rfl rfl ?_
  refine jT_eq (LN := [(7, (1, 0)), (6, (0, 0)), (5, (0, 0)), (4, (4, 3)), (3, (4, 2)), (2, (4, 1)), (1, (4, 0)), (0, (6, 0))]) (stN := [(1, 0)]) (hsN := jpA_4079) rfl rfl rfl ?_
  refine jT_xlload (v := (1, 0)) (pcN := 1933) jI_379_1931 rfl rfl rfl ?_
  refine jT_lcmp (a := 0) (b := 0) (z := 0) (by rfl) (by rfl) (by decide +kernel) (by decide +kernel) (by decide) ?_
  refine jT_xifT (pcN := 1939) jI_379_1934 rfl (by decide +kernel) rfl ?_
  refine jT_xgoto (pcN := 3740) jI_379_1939 rfl ?_
  refine jT_xiinc (x := 0) (z := 5) (LN := [(5, (0, 5)), (7, (1, 0)), (6, (0, 0)), (4, (4, 3)), (3, (4, 2)), (2, (4, 1)), (1, (4, 0)), (0, (6, 0))]) (pcN := 3743) jI_379_3740 rfl rfl (by decide) rfl rfl ?_
  refine jT_xgoto (pcN := 28) jI_379_3743 rfl ?_
  refine jT_xiload (v := (0, 5)) (pcN := 30) jI_379_28 rfl rfl rfl ?_
  refine jT_xaload_n (v := (6, 0)) (pcN := 31) jI_379_30 rfl rfl rfl ?_
  refine jT_adv 1 (pcN := 32) (LN := [(5, (0, 5)), (7, (1, 0)), (6, (0, 0)), (4, (4, 3)), (3, (4, 2)), (2, (4, 1)), (1, (4, 0)), (0, (6, 0))]) (stN := [(0, 5), (0, 5)]) (hsN := jpA_4079) (c1 := 0) (s1 := 0) (c2 := 0) (s2 := 0) (by exact rfl) ?_ (by omega) (by omega)
  refine jT_xiconst (k := 5) (pcN := 33) jI_379_32 rfl ?_
  refine jT_xisub (x := 5) (y := 5) (z := 0) (pcN := 34) jI_379_33 rfl (by decide) rfl ?_
  refine jT_xicT (pcN := 3746) jI_379_34 rfl (by decide +kernel) rfl ?_
  refine jT_xiconst (k := 1) (pcN := 3747) jI_379_3746 rfl ?_
  exact jT_ret rfl (by decide) (by show 45 ≤ 55; decide) (by omega) (by omega) ⟨rfl, rfl⟩
set_option maxRecDepth 100000 in
theorem jL_22_30 {d : Nat} {x0 x1 x2 x3 x4 : Int} (h_x0 : (-2147483648) ≤ x0 ∧ x0 ≤ 2147483647) (h_x1 : 0 ≤ x1 ∧ x1 ≤ 7) (h_x2 : 9 ≤ x2 ∧ x2 ≤ 9) (h_x3 : 0 ≤ x3 ∧ x3 ≤ 0) (h_x4 : (-2147483648) ≤ x4 ∧ x4 ≤ 2147483647) : jT [x0, x1, x2, x3, x4] (d + 8) 379 45 1863 [(5, (0, 0)), (4, (4, 3)), (3, (4, 2)), (2, (4, 1)), (1, (4, 0)), (0, (6, 0))] [] jpA_4078 6 186 (fun k v hsN => k = 0 ∧ v = (0, 1)) := by
  refine jT_xaload_n (v := (4, 0)) (pcN := 1864) jI_379_1863 rfl rfl rfl ?_
  refine jT_xaload_n (v := (6, 0)) (pcN := 1865) jI_379_1864 rfl rfl rfl ?_
  refine jT_xiload (v := (0, 0)) (pcN := 1867) jI_379_1865 rfl rfl rfl ?_
  refine jT_xiconst (k := 1) (pcN := 1868) jI_379_1867 rfl ?_
  refine jT_xiadd (x := 0) (y := 1) (z := 1) (pcN := 1869) jI_379_1868 rfl (by decide) rfl ?_
  refine jT_adv 1 (pcN := 1870) (LN := [(5, (0, 0)), (4, (4, 3)), (3, (4, 2)), (2, (4, 1)), (1, (4, 0)), (0, (6, 0))]) (stN := [(0, x1), (4, 0)]) (hsN := jpA_4078) (c1 := 0) (s1 := 0) (c2 := 6) (s2 := 186) (by exact rfl) ?_ (by omega) (by omega)
  refine jT_xaload_n (v := (6, 0)) (pcN := 1871) jI_379_1870 rfl rfl rfl ?_
  refine jT_xiload (v := (0, 0)) (pcN := 1873) jI_379_1871 rfl rfl rfl ?_
  refine jT_xiconst (k := 2) (pcN := 1874) jI_379_1873 rfl ?_
  refine jT_xiadd (x := 0) (y := 2) (z := 2) (pcN := 1875) jI_379_1874 rfl (by decide) rfl ?_
  refine jT_adv 1 (pcN := 1876) (LN := [(5, (0, 0)), (4, (4, 3)), (3, (4, 2)), (2, (4, 1)), (1, (4, 0)), (0, (6, 0))]) (stN := [(0, x2), (0, x1), (4, 0)]) (hsN := jpA_4078) (c1 := 0) (s1 := 0) (c2 := 6) (s2 := 186) (by exact rfl) ?_ (by omega) (by omega)
  refine jT_eq (LN := [(5, (0, 0)), (4, (4, 3)), (3, (4, 2)), (2, (4, 1)), (1, (4, 0)), (0, (6, 0))]) (stN := [(0, 9), (0, x1), (4, 0)]) (hsN := [jzA_265, jzA_266, (101, [], [0]), jgh, (8, [(4, 30), (4, 31)], []), jgh, jgh, jgh, jgh, jgh, jgh, jgh, jgh, jgh, jzA_721, (100, [], jS0), jgh, jgh, jgh, jgh, (130, [], [37, 38, 39, 40, 41, 42]), (101, [], [0, 0, 0, 0, 0, 0]), jgh, jgh, jgh, jgh, jgh, jgh, jgh, jgh, jgh, jgh, jzA_324, jgh, jgh, jgh, jgh, (100, [], (jenc (jlg 0))), jgh, jgh, jgh, jgh, jgh, (4, [(4, 44), (1, 1)], []), (101, [], [0, 0, 0, 0, 0, 0])]) (rfl) (by simp only [List.cons.injEq, Prod.mk.injEq, and_true, true_and] <;> ((try unfold jw); (try unfold jwl); omega)) (rfl) ?_
  refine jT_xaload_n (v := (6, 0)) (pcN := 1877) jI_379_1876 rfl rfl rfl ?_
  refine jT_xiload (v := (0, 0)) (pcN := 1879) jI_379_1877 rfl rfl rfl ?_
  refine jT_xiconst (k := 3) (pcN := 1880) jI_379_1879 rfl ?_
  refine jT_xiadd (x := 0) (y := 3) (z := 3) (pcN := 1881) jI_379_1880 rfl (by decide) rfl ?_
  refine jT_adv 1 (pcN := 1882) (LN := [(5, (0, 0)), (4, (4, 3)), (3, (4, 2)), (2, (4, 1)), (1, (4, 0)), (0, (6, 0))]) (stN := [(0, x3), (0, 9), (0, x1), (4, 0)]) (hsN := jpA_4078) (c1 := 0) (s1 := 0) (c2 := 6) (s2 := 186) (by exact rfl) ?_ (by omega) (by omega)
  refine jT_eq (LN := [(5, (0, 0)), (4, (4, 3)), (3, (4, 2)), (2, (4, 1)), (1, (4, 0)), (0, (6, 0))]) (stN := [(0, 0), (0, 9), (0, x1), (4, 0)]) (hsN := [jzA_265, jzA_266, (101, [], [0]), jgh, (8, [(4, 30), (4, 31)], []), jgh, jgh, jgh, jgh, jgh, jgh, jgh, jgh, jgh, jzA_721, (100, [], jS0), jgh, jgh, jgh, jgh, (130, [], [37, 38, 39, 40, 41, 42]), (101, [], [0, 0, 0, 0, 0, 0]), jgh, jgh, jgh, jgh, jgh, jgh, jgh, jgh, jgh, jgh, jzA_324, jgh, jgh, jgh, jgh, (100, [], (jenc (jlg 0))), jgh, jgh, jgh, jgh, jgh, (4, [(4, 44), (1, 1)], []), (101, [], [0, 0, 0, 0, 0, 0])]) (rfl) (by simp only [List.cons.injEq, Prod.mk.injEq, and_true, true_and] <;> ((try unfold jw); (try unfold jwl); omega)) (rfl) ?_
  refine jT_xaload_n (v := (4, 2)) (pcN := 1883) jI_379_1882 rfl rfl rfl ?_
  refine jT_fR [0, 2, 4, 5, 6, 7, 8, 9, 10, 11, 12, 13, 14, 30, 31, 32, 33, 34, 35, 36, 43, 44] 45 (y := 347) (pcN := 1886) (dC := 5) (bc1 := 0) (bc2 := 0) (c1 := 6) (c2 := 186) (as := [(4, 0), (0, x1), (0, 9), (0, 0), (4, 2)]) (asC := [(4, 0), (0, x1), (0, 9), (0, 0), (4, 1)]) (LN := [(5, (0, 0)), (4, (4, 3)), (3, (4, 2)), (2, (4, 1)), (1, (4, 0)), (0, (6, 0))]) (stN := []) (hsC := jpA_4038) (v := (0, 0)) (st2 := [(0, 0)]) (jA_347_1512 (d := 0) (by omega)) (by rfl) (by rfl) (by decide +kernel) (by rfl) (by rfl) (by omega) (by omega) (by omega) (by omega) rfl ?_
  refine jT_xistore (v := (0, 0)) (LN := [(6, (0, 0)), (5, (0, 0)), (4, (4, 3)), (3, (4, 2)), (2, (4, 1)), (1, (4, 0)), (0, (6, 0))]) (pcN := 1888) jI_379_1886 rfl rfl rfl rfl ?_
  refine jT_xaload_n (v := (4, 1)) (pcN := 1889) jI_379_1888 rfl rfl rfl ?_
  refine jT_xaload_n (v := (6, 0)) (pcN := 1890) jI_379_1889 rfl rfl rfl ?_
  refine jT_xiload (v := (0, 0)) (pcN := 1892) jI_379_1890 rfl rfl rfl ?_
  refine jT_xiconst (k := 1) (pcN := 1893) jI_379_1892 rfl ?_
  refine jT_xiadd (x := 0) (y := 1) (z := 1) (pcN := 1894) jI_379_1893 rfl (by decide) rfl ?_
  refine jT_adv 1 (pcN := 1895) (LN := [(6, (0, 0)), (5, (0, 0)), (4, (4, 3)), (3, (4, 2)), (2, (4, 1)), (1, (4, 0)), (0, (6, 0))]) (stN := [(0, x1), (4, 1)]) (hsN := jpA_4078) (c1 := 0) (s1 := 0) (c2 := 6) (s2 := 186) (by exact rfl) ?_ (by omega) (by omega)
  refine jT_xaload_n (v := (6, 0)) (pcN := 1896) jI_379_1895 rfl rfl rfl ?_
  refine jT_xiload (v := (0, 0)) (pcN := 1898) jI_379_1896 rfl rfl rfl ?_
  refine jT_xiconst (k := 2) (pcN := 1899) jI_379_1898 rfl ?_
  refine jT_xiadd (x := 0) (y := 2) (z := 2) (pcN := 1900) jI_379_1899 rfl (by decide) rfl ?_
  refine jT_adv 1 (pcN := 1901) (LN := [(6, (0, 0)), (5, (0, 0)), (4, (4, 3)), (3, (4, 2)), (2, (4, 1)), (1, (4, 0)), (0, (6, 0))]) (stN := [(0, x2), (0, x1), (4, 1)]) (hsN := jpA_4078) (c1 := 0) (s1 := 0) (c2 := 6) (s2 := 186) (by exact rfl) ?_ (by omega) (by omega)
  refine jT_eq (LN := [(6, (0, 0)), (5, (0, 0)), (4, (4, 3)), (3, (4, 2)), (2, (4, 1)), (1, (4, 0)), (0, (6, 0))]) (stN := [(0, 9), (0, x1), (4, 1)]) (hsN := [jzA_265, jzA_266, (101, [], [0]), jgh, (8, [(4, 30), (4, 31)], []), jgh, jgh, jgh, jgh, jgh, jgh, jgh, jgh, jgh, jzA_721, (100, [], jS0), jgh, jgh, jgh, jgh, (130, [], [37, 38, 39, 40, 41, 42]), (101, [], [0, 0, 0, 0, 0, 0]), jgh, jgh, jgh, jgh, jgh, jgh, jgh, jgh, jgh, jgh, jzA_324, jgh, jgh, jgh, jgh, (100, [], (jenc (jlg 0))), jgh, jgh, jgh, jgh, jgh, (4, [(4, 44), (1, 1)], []), (101, [], [0, 0, 0, 0, 0, 0])]) (rfl) (by simp only [List.cons.injEq, Prod.mk.injEq, and_true, true_and] <;> ((try unfold jw); (try unfold jwl); omega)) (rfl) ?_
  refine jT_xaload_n (v := (6, 0)) (pcN := 1902) jI_379_1901 rfl rfl rfl ?_
  refine jT_xiload (v := (0, 0)) (pcN := 1904) jI_379_1902 rfl rfl rfl ?_
  refine jT_xiconst (k := 3) (pcN := 1905) jI_379_1904 rfl ?_
  refine jT_xiadd (x := 0) (y := 3) (z := 3) (pcN := 1906) jI_379_1905 rfl (by decide) rfl ?_
  refine jT_adv 1 (pcN := 1907) (LN := [(6, (0, 0)), (5, (0, 0)), (4, (4, 3)), (3, (4, 2)), (2, (4, 1)), (1, (4, 0)), (0, (6, 0))]) (stN := [(0, x3), (0, 9), (0, x1), (4, 1)]) (hsN := jpA_4078) (c1 := 0) (s1 := 0) (c2 := 6) (s2 := 186) (by exact rfl) ?_ (by omega) (by omega)
  refine jT_eq (LN := [(6, (0, 0)), (5, (0, 0)), (4, (4, 3)), (3, (4, 2)), (2, (4, 1)), (1, (4, 0)), (0, (6, 0))]) (stN := [(0, 0), (0, 9), (0, x1), (4, 1)]) (hsN := [jzA_265, jzA_266, (101, [], [0]), jgh, (8, [(4, 30), (4, 31)], []), jgh, jgh, jgh, jgh, jgh, jgh, jgh, jgh, jgh, jzA_721, (100, [], jS0), jgh, jgh, jgh, jgh, (130, [], [37, 38, 39, 40, 41, 42]), (101, [], [0, 0, 0, 0, 0, 0]), jgh, jgh, jgh, jgh, jgh, jgh, jgh, jgh, jgh, jgh, jzA_324, jgh, jgh, jgh, jgh, (100, [], (jenc (jlg 0))), jgh, jgh, jgh, jgh, jgh, (4, [(4, 44), (1, 1)], []), (101, [], [0, 0, 0, 0, 0, 0])]) (rfl) (by simp only [List.cons.injEq, Prod.mk.injEq, and_true, true_and] <;> ((try unfold jw); (try unfold jwl); omega)) (rfl) ?_
  refine jT_fA [1, 15, 16, 17, 18, 19, 20, 21, 22, 23, 24, 25, 26, 27, 28, 29, 37, 38, 39, 40, 41, 42] 45 (y := 263) (pcN := 1910) (dC := 7) (bc1 := 6) (bc2 := 186) (c1 := 0) (c2 := 0) (as := [(4, 1), (0, x1), (0, 9), (0, 0)]) (asC := [(4, 0), (0, x1), (0, 9), (0, 0)]) (LN := [(6, (0, 0)), (5, (0, 0)), (4, (4, 3)), (3, (4, 2)), (2, (4, 1)), (1, (4, 0)), (0, (6, 0))]) (stN := []) (hsC := jpA_1695) (ex := jpA_4341) (v := (1, 0)) (st2 := [(1, 0)]) (hs2 := jpA_4391) (jA_263_1517 (d := 0) (by omega)) (by rfl) (by rfl) (by decide +kernel) (by rfl) (by rfl) (by omega) (by omega) (by omega) (by omega) rfl (by decide +kernel) ?_
  refine jT_xlstore (v := (1, 0)) (LN := [(7, (1, 0)), (6, (0, 0)), (5, (0, 0)), (4, (4, 3)), (3, (4, 2)), (2, (4, 1)), (1, (4, 0)), (0, (6, 0))]) (pcN := 1912) jI_379_1910 rfl rfl rfl rfl ?_
  refine jT_xaload_n (v := (4, 1)) (pcN := 1913) jI_379_1912 rfl rfl rfl ?_
  refine jT_fR [1, 15, 16, 17, 18, 19, 20, 21, 22, 23, 24, 25, 26, 27, 28, 29] 51 (y := 186) (pcN := 1916) (dC := 0) (bc1 := 0) (bc2 := 0) (c1 := 0) (c2 := 0) (as := [(4, 1)]) (asC := [(4, 0)]) (LN := [(7, (1, 0)), (6, (0, 0)), (5, (0, 0)), (4, (4, 3)), (3, (4, 2)), (2, (4, 1)), (1, (4, 0)), (0, (6, 0))]) (stN := []) (hsC := jpA_22) (v := (0, 0)) (st2 := [(0, 0)]) (jA_186_726 (d := 0)) (by rfl) (by rfl) (by decide +kernel) (by rfl) (by rfl) (by omega) (by omega) (by omega) (by omega) rfl ?_
  refine jT_xiload (v := (0, 0)) (pcN := 1918) jI_379_1916 rfl rfl rfl ?_
  refine jT_xicT (pcN := 1923) jI_379_1918 rfl (by decide +kernel) rfl ?_
  refine jT_xiload (v := (0, 0)) (pcN := 1925) jI_379_1923 rfl rfl rfl ?_
  refine jT_xifF (t := 1939) (pcN := 1928) jI_379_1925 rfl (by decide +kernel) rfl rfl ?_
  refine jT_xaload_n (v := (4, 2)) (pcN := 1929) jI_379_1928 rfl rfl rfl ?_
  refine jT_xiconst (k := 0) (pcN := 1930) jI_379_1929 rfl ?_
  refine jT_lald (x := 0) (a := 2) (j := 0) (fs := []) (X := [0]) jI_379_1930 rfl rfl rfl rfl ?_
  refine jT_eq (LN := [(7, (1, 0)), (6, (0, 0)), (5, (0, 0)), (4, (4, 3)), (3, (4, 2)), (2, (4, 1)), (1, (4, 0)), (0, (6, 0))]) (stN := [(1, 0)]) (hsN := jpA_4391) rfl rfl rfl ?_
  refine jT_xlload (v := (1, 0)) (pcN := 1933) jI_379_1931 rfl rfl rfl ?_
  refine jT_lcmp (a := 0) (b := 0) (z := 0) (by rfl) (by rfl) (by decide +kernel) (by decide +kernel) (by decide) ?_
  refine jT_xifT (pcN := 1939) jI_379_1934 rfl (by decide +kernel) rfl ?_
  refine jT_xgoto (pcN := 3740) jI_379_1939 rfl ?_
  refine jT_xiinc (x := 0) (z := 5) (LN := [(5, (0, 5)), (7, (1, 0)), (6, (0, 0)), (4, (4, 3)), (3, (4, 2)), (2, (4, 1)), (1, (4, 0)), (0, (6, 0))]) (pcN := 3743) jI_379_3740 rfl rfl (by decide) rfl rfl ?_
  refine jT_xgoto (pcN := 28) jI_379_3743 rfl ?_
  refine jT_xiload (v := (0, 5)) (pcN := 30) jI_379_28 rfl rfl rfl ?_
  refine jT_xaload_n (v := (6, 0)) (pcN := 31) jI_379_30 rfl rfl rfl ?_
  refine jT_adv 1 (pcN := 32) (LN := [(5, (0, 5)), (7, (1, 0)), (6, (0, 0)), (4, (4, 3)), (3, (4, 2)), (2, (4, 1)), (1, (4, 0)), (0, (6, 0))]) (stN := [(0, 5), (0, 5)]) (hsN := jpA_4391) (c1 := 0) (s1 := 0) (c2 := 0) (s2 := 0) (by exact rfl) ?_ (by omega) (by omega)
  refine jT_xiconst (k := 5) (pcN := 33) jI_379_32 rfl ?_
  refine jT_xisub (x := 5) (y := 5) (z := 0) (pcN := 34) jI_379_33 rfl (by decide) rfl ?_
  refine jT_xicT (pcN := 3746) jI_379_34 rfl (by decide +kernel) rfl ?_
  refine jT_xiconst (k := 1) (pcN := 3747) jI_379_3746 rfl ?_
  exact jT_ret rfl (by decide) (by show 45 ≤ 51; decide) (by omega) (by omega) ⟨rfl, rfl⟩
set_option maxRecDepth 100000 in
theorem jL_22_31 {d : Nat} {x0 x1 x2 x3 x4 : Int} (h_x0 : (-2147483648) ≤ x0 ∧ x0 ≤ 2147483647) (h_x1 : 0 ≤ x1 ∧ x1 ≤ 7) (h_x2 : 9 ≤ x2 ∧ x2 ≤ 9) (h_x3 : 1 ≤ x3 ∧ x3 ≤ 1) (h_x4 : (-2147483648) ≤ x4 ∧ x4 ≤ 2147483647) : jT [x0, x1, x2, x3, x4] (d + 8) 379 45 1863 [(5, (0, 0)), (4, (4, 3)), (3, (4, 2)), (2, (4, 1)), (1, (4, 0)), (0, (6, 0))] [] jpA_4078 9 200 (fun k v hsN => k = 0 ∧ v = (0, 1)) := by
  refine jT_xaload_n (v := (4, 0)) (pcN := 1864) jI_379_1863 rfl rfl rfl ?_
  refine jT_xaload_n (v := (6, 0)) (pcN := 1865) jI_379_1864 rfl rfl rfl ?_
  refine jT_xiload (v := (0, 0)) (pcN := 1867) jI_379_1865 rfl rfl rfl ?_
  refine jT_xiconst (k := 1) (pcN := 1868) jI_379_1867 rfl ?_
  refine jT_xiadd (x := 0) (y := 1) (z := 1) (pcN := 1869) jI_379_1868 rfl (by decide) rfl ?_
  refine jT_adv 1 (pcN := 1870) (LN := [(5, (0, 0)), (4, (4, 3)), (3, (4, 2)), (2, (4, 1)), (1, (4, 0)), (0, (6, 0))]) (stN := [(0, x1), (4, 0)]) (hsN := jpA_4078) (c1 := 0) (s1 := 0) (c2 := 9) (s2 := 200) (by exact rfl) ?_ (by omega) (by omega)
  refine jT_xaload_n (v := (6, 0)) (pcN := 1871) jI_379_1870 rfl rfl rfl ?_
  refine jT_xiload (v := (0, 0)) (pcN := 1873) jI_379_1871 rfl rfl rfl ?_
  refine jT_xiconst (k := 2) (pcN := 1874) jI_379_1873 rfl ?_
  refine jT_xiadd (x := 0) (y := 2) (z := 2) (pcN := 1875) jI_379_1874 rfl (by decide) rfl ?_
  refine jT_adv 1 (pcN := 1876) (LN := [(5, (0, 0)), (4, (4, 3)), (3, (4, 2)), (2, (4, 1)), (1, (4, 0)), (0, (6, 0))]) (stN := [(0, x2), (0, x1), (4, 0)]) (hsN := jpA_4078) (c1 := 0) (s1 := 0) (c2 := 9) (s2 := 200) (by exact rfl) ?_ (by omega) (by omega)
  refine jT_eq (LN := [(5, (0, 0)), (4, (4, 3)), (3, (4, 2)), (2, (4, 1)), (1, (4, 0)), (0, (6, 0))]) (stN := [(0, 9), (0, x1), (4, 0)]) (hsN := [jzA_265, jzA_266, (101, [], [0]), jgh, (8, [(4, 30), (4, 31)], []), jgh, jgh, jgh, jgh, jgh, jgh, jgh, jgh, jgh, jzA_721, (100, [], jS0), jgh, jgh, jgh, jgh, (130, [], [37, 38, 39, 40, 41, 42]), (101, [], [0, 0, 0, 0, 0, 0]), jgh, jgh, jgh, jgh, jgh, jgh, jgh, jgh, jgh, jgh, jzA_324, jgh, jgh, jgh, jgh, (100, [], (jenc (jlg 0))), jgh, jgh, jgh, jgh, jgh, (4, [(4, 44), (1, 1)], []), (101, [], [0, 0, 0, 0, 0, 0])]) (rfl) (by simp only [List.cons.injEq, Prod.mk.injEq, and_true, true_and] <;> ((try unfold jw); (try unfold jwl); omega)) (rfl) ?_
  refine jT_xaload_n (v := (6, 0)) (pcN := 1877) jI_379_1876 rfl rfl rfl ?_
  refine jT_xiload (v := (0, 0)) (pcN := 1879) jI_379_1877 rfl rfl rfl ?_
  refine jT_xiconst (k := 3) (pcN := 1880) jI_379_1879 rfl ?_
  refine jT_xiadd (x := 0) (y := 3) (z := 3) (pcN := 1881) jI_379_1880 rfl (by decide) rfl ?_
  refine jT_adv 1 (pcN := 1882) (LN := [(5, (0, 0)), (4, (4, 3)), (3, (4, 2)), (2, (4, 1)), (1, (4, 0)), (0, (6, 0))]) (stN := [(0, x3), (0, 9), (0, x1), (4, 0)]) (hsN := jpA_4078) (c1 := 0) (s1 := 0) (c2 := 9) (s2 := 200) (by exact rfl) ?_ (by omega) (by omega)
  refine jT_eq (LN := [(5, (0, 0)), (4, (4, 3)), (3, (4, 2)), (2, (4, 1)), (1, (4, 0)), (0, (6, 0))]) (stN := [(0, 1), (0, 9), (0, x1), (4, 0)]) (hsN := [jzA_265, jzA_266, (101, [], [0]), jgh, (8, [(4, 30), (4, 31)], []), jgh, jgh, jgh, jgh, jgh, jgh, jgh, jgh, jgh, jzA_721, (100, [], jS0), jgh, jgh, jgh, jgh, (130, [], [37, 38, 39, 40, 41, 42]), (101, [], [0, 0, 0, 0, 0, 0]), jgh, jgh, jgh, jgh, jgh, jgh, jgh, jgh, jgh, jgh, jzA_324, jgh, jgh, jgh, jgh, (100, [], (jenc (jlg 0))), jgh, jgh, jgh, jgh, jgh, (4, [(4, 44), (1, 1)], []), (101, [], [0, 0, 0, 0, 0, 0])]) (rfl) (by simp only [List.cons.injEq, Prod.mk.injEq, and_true, true_and] <;> ((try unfold jw); (try unfold jwl); omega)) (rfl) ?_
  refine jT_xaload_n (v := (4, 2)) (pcN := 1883) jI_379_1882 rfl rfl rfl ?_
  refine jT_fA [0, 2, 4, 5, 6, 7, 8, 9, 10, 11, 12, 13, 14, 30, 31, 32, 33, 34, 35, 36, 43, 44] 45 (y := 347) (pcN := 1886) (dC := 5) (bc1 := 2) (bc2 := 8) (c1 := 7) (c2 := 192) (as := [(4, 0), (0, x1), (0, 9), (0, 1), (4, 2)]) (asC := [(4, 0), (0, x1), (0, 9), (0, 1), (4, 1)]) (LN := [(5, (0, 0)), (4, (4, 3)), (3, (4, 2)), (2, (4, 1)), (1, (4, 0)), (0, (6, 0))]) (stN := []) (hsC := jpA_4038) (ex := [(101, [], [0, 0, 0, 0, 0, 0]), (4, [(4, 22), (1, 1)], [])]) (v := (0, 0)) (st2 := [(0, 0)]) (hs2 := jpA_4397) (jA_347_1520 (d := 0) (by omega)) (by rfl) (by rfl) (by decide +kernel) (by rfl) (by rfl) (by omega) (by omega) (by omega) (by omega) rfl (by decide +kernel) ?_
  refine jT_xistore (v := (0, 0)) (LN := [(6, (0, 0)), (5, (0, 0)), (4, (4, 3)), (3, (4, 2)), (2, (4, 1)), (1, (4, 0)), (0, (6, 0))]) (pcN := 1888) jI_379_1886 rfl rfl rfl rfl ?_
  refine jT_xaload_n (v := (4, 1)) (pcN := 1889) jI_379_1888 rfl rfl rfl ?_
  refine jT_xaload_n (v := (6, 0)) (pcN := 1890) jI_379_1889 rfl rfl rfl ?_
  refine jT_xiload (v := (0, 0)) (pcN := 1892) jI_379_1890 rfl rfl rfl ?_
  refine jT_xiconst (k := 1) (pcN := 1893) jI_379_1892 rfl ?_
  refine jT_xiadd (x := 0) (y := 1) (z := 1) (pcN := 1894) jI_379_1893 rfl (by decide) rfl ?_
  refine jT_adv 1 (pcN := 1895) (LN := [(6, (0, 0)), (5, (0, 0)), (4, (4, 3)), (3, (4, 2)), (2, (4, 1)), (1, (4, 0)), (0, (6, 0))]) (stN := [(0, x1), (4, 1)]) (hsN := jpA_4397) (c1 := 0) (s1 := 0) (c2 := 7) (s2 := 192) (by exact rfl) ?_ (by omega) (by omega)
  refine jT_xaload_n (v := (6, 0)) (pcN := 1896) jI_379_1895 rfl rfl rfl ?_
  refine jT_xiload (v := (0, 0)) (pcN := 1898) jI_379_1896 rfl rfl rfl ?_
  refine jT_xiconst (k := 2) (pcN := 1899) jI_379_1898 rfl ?_
  refine jT_xiadd (x := 0) (y := 2) (z := 2) (pcN := 1900) jI_379_1899 rfl (by decide) rfl ?_
  refine jT_adv 1 (pcN := 1901) (LN := [(6, (0, 0)), (5, (0, 0)), (4, (4, 3)), (3, (4, 2)), (2, (4, 1)), (1, (4, 0)), (0, (6, 0))]) (stN := [(0, x2), (0, x1), (4, 1)]) (hsN := jpA_4397) (c1 := 0) (s1 := 0) (c2 := 7) (s2 := 192) (by exact rfl) ?_ (by omega) (by omega)
  refine jT_eq (LN := [(6, (0, 0)), (5, (0, 0)), (4, (4, 3)), (3, (4, 2)), (2, (4, 1)), (1, (4, 0)), (0, (6, 0))]) (stN := [(0, 9), (0, x1), (4, 1)]) (hsN := [jzA_265, jzA_266, (101, [], [0]), jgh, (8, [(4, 30), (4, 31)], []), jgh, jgh, jgh, jgh, jgh, jgh, jgh, jgh, jgh, jzA_721, (100, [], jS0), jgh, jgh, jgh, jgh, (130, [], [37, 38, 39, 40, 41, 42]), (101, [], [0, 0, 0, 0, 0, 0]), jgh, jgh, jgh, jgh, jgh, jgh, jgh, jgh, jgh, jgh, jzA_324, jgh, jgh, jgh, jgh, (100, [], (jenc (jlg 0))), jgh, jgh, jgh, jgh, jgh, (4, [(4, 44), (1, 1)], []), (101, [], [0, 0, 0, 0, 0, 0]), (101, [], [0, 0, 0, 0, 0, 0]), (4, [(4, 45), (1, 1)], [])]) (rfl) (by simp only [List.cons.injEq, Prod.mk.injEq, and_true, true_and] <;> ((try unfold jw); (try unfold jwl); omega)) (rfl) ?_
  refine jT_xaload_n (v := (6, 0)) (pcN := 1902) jI_379_1901 rfl rfl rfl ?_
  refine jT_xiload (v := (0, 0)) (pcN := 1904) jI_379_1902 rfl rfl rfl ?_
  refine jT_xiconst (k := 3) (pcN := 1905) jI_379_1904 rfl ?_
  refine jT_xiadd (x := 0) (y := 3) (z := 3) (pcN := 1906) jI_379_1905 rfl (by decide) rfl ?_
  refine jT_adv 1 (pcN := 1907) (LN := [(6, (0, 0)), (5, (0, 0)), (4, (4, 3)), (3, (4, 2)), (2, (4, 1)), (1, (4, 0)), (0, (6, 0))]) (stN := [(0, x3), (0, 9), (0, x1), (4, 1)]) (hsN := jpA_4397) (c1 := 0) (s1 := 0) (c2 := 7) (s2 := 192) (by exact rfl) ?_ (by omega) (by omega)
  refine jT_eq (LN := [(6, (0, 0)), (5, (0, 0)), (4, (4, 3)), (3, (4, 2)), (2, (4, 1)), (1, (4, 0)), (0, (6, 0))]) (stN := [(0, 1), (0, 9), (0, x1), (4, 1)]) (hsN := [jzA_265, jzA_266, (101, [], [0]), jgh, (8, [(4, 30), (4, 31)], []), jgh, jgh, jgh, jgh, jgh, jgh, jgh, jgh, jgh, jzA_721, (100, [], jS0), jgh, jgh, jgh, jgh, (130, [], [37, 38, 39, 40, 41, 42]), (101, [], [0, 0, 0, 0, 0, 0]), jgh, jgh, jgh, jgh, jgh, jgh, jgh, jgh, jgh, jgh, jzA_324, jgh, jgh, jgh, jgh, (100, [], (jenc (jlg 0))), jgh, jgh, jgh, jgh, jgh, (4, [(4, 44), (1, 1)], []), (101, [], [0, 0, 0, 0, 0, 0]), (101, [], [0, 0, 0, 0, 0, 0]), (4, [(4, 45), (1, 1)], [])]) (rfl) (by simp only [List.cons.injEq, Prod.mk.injEq, and_true, true_and] <;> ((try unfold jw); (try unfold jwl); omega)) (rfl) ?_
  refine jT_fA [1, 15, 16, 17, 18, 19, 20, 21, 22, 23, 24, 25, 26, 27, 28, 29, 37, 38, 39, 40, 41, 42] 47 (y := 263) (pcN := 1910) (dC := 7) (bc1 := 7) (bc2 := 192) (c1 := 0) (c2 := 0) (as := [(4, 1), (0, x1), (0, 9), (0, 1)]) (asC := [(4, 0), (0, x1), (0, 9), (0, 1)]) (LN := [(6, (0, 0)), (5, (0, 0)), (4, (4, 3)), (3, (4, 2)), (2, (4, 1)), (1, (4, 0)), (0, (6, 0))]) (stN := []) (hsC := jpA_1695) (ex := jpA_4354) (v := (1, 0)) (st2 := [(1, 0)]) (hs2 := jpA_4398) (jA_263_1522 (d := 0) (by omega)) (by rfl) (by rfl) (by decide +kernel) (by rfl) (by rfl) (by omega) (by omega) (by omega) (by omega) rfl (by decide +kernel) ?_
  refine jT_xlstore (v := (1, 0)) (LN := [(7, (1, 0)), (6, (0, 0)), (5, (0, 0)), (4, (4, 3)), (3, (4, 2)), (2, (4, 1)), (1, (4, 0)), (0, (6, 0))]) (pcN := 1912) jI_379_1910 rfl rfl rfl rfl ?_
  refine jT_xaload_n (v := (4, 1)) (pcN := 1913) jI_379_1912 rfl rfl rfl ?_
  refine jT_fR [1, 15, 16, 17, 18, 19, 20, 21, 22, 23, 24, 25, 26, 27, 28, 29] 54 (y := 186) (pcN := 1916) (dC := 0) (bc1 := 0) (bc2 := 0) (c1 := 0) (c2 := 0) (as := [(4, 1)]) (asC := [(4, 0)]) (LN := [(7, (1, 0)), (6, (0, 0)), (5, (0, 0)), (4, (4, 3)), (3, (4, 2)), (2, (4, 1)), (1, (4, 0)), (0, (6, 0))]) (stN := []) (hsC := jpA_22) (v := (0, 0)) (st2 := [(0, 0)]) (jA_186_726 (d := 0)) (by rfl) (by rfl) (by decide +kernel) (by rfl) (by rfl) (by omega) (by omega) (by omega) (by omega) rfl ?_
  refine jT_xiload (v := (0, 0)) (pcN := 1918) jI_379_1916 rfl rfl rfl ?_
  refine jT_xicT (pcN := 1923) jI_379_1918 rfl (by decide +kernel) rfl ?_
  refine jT_xiload (v := (0, 0)) (pcN := 1925) jI_379_1923 rfl rfl rfl ?_
  refine jT_xifF (t := 1939) (pcN := 1928) jI_379_1925 rfl (by decide +kernel) rfl rfl ?_
  refine jT_xaload_n (v := (4, 2)) (pcN := 1929) jI_379_1928 rfl rfl rfl ?_
  refine jT_xiconst (k := 0) (pcN := 1930) jI_379_1929 rfl ?_
  refine jT_lald (x := 0) (a := 2) (j := 0) (fs := []) (X := [0]) jI_379_1930 rfl rfl rfl rfl ?_
  refine jT_eq (LN := [(7, (1, 0)), (6, (0, 0)), (5, (0, 0)), (4, (4, 3)), (3, (4, 2)), (2, (4, 1)), (1, (4, 0)), (0, (6, 0))]) (stN := [(1, 0)]) (hsN := jpA_4398) rfl rfl rfl ?_
  refine jT_xlload (v := (1, 0)) (pcN := 1933) jI_379_1931 rfl rfl rfl ?_
  refine jT_lcmp (a := 0) (b := 0) (z := 0) (by rfl) (by rfl) (by decide +kernel) (by decide +kernel) (by decide) ?_
  refine jT_xifT (pcN := 1939) jI_379_1934 rfl (by decide +kernel) rfl ?_
  refine jT_xgoto (pcN := 3740) jI_379_1939 rfl ?_
  refine jT_xiinc (x := 0) (z := 5) (LN := [(5, (0, 5)), (7, (1, 0)), (6, (0, 0)), (4, (4, 3)), (3, (4, 2)), (2, (4, 1)), (1, (4, 0)), (0, (6, 0))]) (pcN := 3743) jI_379_3740 rfl rfl (by decide) rfl rfl ?_
  refine jT_xgoto (pcN := 28) jI_379_3743 rfl ?_
  refine jT_xiload (v := (0, 5)) (pcN := 30) jI_379_28 rfl rfl rfl ?_
  refine jT_xaload_n (v := (6, 0)) (pcN := 31) jI_379_30 rfl rfl rfl ?_
  refine jT_adv 1 (pcN := 32) (LN := [(5, (0, 5)), (7, (1, 0)), (6, (0, 0)), (4, (4, 3)), (3, (4, 2)), (2, (4, 1)), (1, (4, 0)), (0, (6, 0))]) (stN := [(0, 5), (0, 5)]) (hsN := jpA_4398) (c1 := 0) (s1 := 0) (c2 := 0) (s2 := 0) (by exact rfl) ?_ (by omega) (by omega)
  refine jT_xiconst (k := 5) (pcN := 33) jI_379_32 rfl ?_
  refine jT_xisub (x := 5) (y := 5) (z := 0) (pcN := 34) jI_379_33 rfl (by decide) rfl ?_
  refine jT_xicT (pcN := 3746) jI_379_34 rfl (by decide +kernel) rfl ?_
  refine jT_xiconst (k := 1) (pcN := 3747) jI_379_3746 rfl ?_
  exact jT_ret rfl (by decide) (by show 45 ≤ 54; decide) (by omega) (by omega) ⟨rfl, rfl⟩
set_option maxRecDepth 100000 in
theorem jL_22_32 {d : Nat} {x0 x1 x2 x3 x4 : Int} (h_x0 : (-2147483648) ≤ x0 ∧ x0 ≤ 2147483647) (h_x1 : 0 ≤ x1 ∧ x1 ≤ 7) (h_x2 : 9 ≤ x2 ∧ x2 ≤ 9) (h_x3 : 2 ≤ x3 ∧ x3 ≤ 2) (h_x4 : (-2147483648) ≤ x4 ∧ x4 ≤ 2147483647) : jT [x0, x1, x2, x3, x4] (d + 9) 379 45 1863 [(5, (0, 0)), (4, (4, 3)), (3, (4, 2)), (2, (4, 1)), (1, (4, 0)), (0, (6, 0))] [] jpA_4078 10 360 (fun k v hsN => k = 0 ∧ v = (0, 1)) := by
  refine jT_xaload_n (v := (4, 0)) (pcN := 1864) jI_379_1863 rfl rfl rfl ?_
  refine jT_xaload_n (v := (6, 0)) (pcN := 1865) jI_379_1864 rfl rfl rfl ?_
  refine jT_xiload (v := (0, 0)) (pcN := 1867) jI_379_1865 rfl rfl rfl ?_
  refine jT_xiconst (k := 1) (pcN := 1868) jI_379_1867 rfl ?_
  refine jT_xiadd (x := 0) (y := 1) (z := 1) (pcN := 1869) jI_379_1868 rfl (by decide) rfl ?_
  refine jT_adv 1 (pcN := 1870) (LN := [(5, (0, 0)), (4, (4, 3)), (3, (4, 2)), (2, (4, 1)), (1, (4, 0)), (0, (6, 0))]) (stN := [(0, x1), (4, 0)]) (hsN := jpA_4078) (c1 := 0) (s1 := 0) (c2 := 10) (s2 := 360) (by exact rfl) ?_ (by omega) (by omega)
  refine jT_xaload_n (v := (6, 0)) (pcN := 1871) jI_379_1870 rfl rfl rfl ?_
  refine jT_xiload (v := (0, 0)) (pcN := 1873) jI_379_1871 rfl rfl rfl ?_
  refine jT_xiconst (k := 2) (pcN := 1874) jI_379_1873 rfl ?_
  refine jT_xiadd (x := 0) (y := 2) (z := 2) (pcN := 1875) jI_379_1874 rfl (by decide) rfl ?_
  refine jT_adv 1 (pcN := 1876) (LN := [(5, (0, 0)), (4, (4, 3)), (3, (4, 2)), (2, (4, 1)), (1, (4, 0)), (0, (6, 0))]) (stN := [(0, x2), (0, x1), (4, 0)]) (hsN := jpA_4078) (c1 := 0) (s1 := 0) (c2 := 10) (s2 := 360) (by exact rfl) ?_ (by omega) (by omega)
  refine jT_eq (LN := [(5, (0, 0)), (4, (4, 3)), (3, (4, 2)), (2, (4, 1)), (1, (4, 0)), (0, (6, 0))]) (stN := [(0, 9), (0, x1), (4, 0)]) (hsN := [jzA_265, jzA_266, (101, [], [0]), jgh, (8, [(4, 30), (4, 31)], []), jgh, jgh, jgh, jgh, jgh, jgh, jgh, jgh, jgh, jzA_721, (100, [], jS0), jgh, jgh, jgh, jgh, (130, [], [37, 38, 39, 40, 41, 42]), (101, [], [0, 0, 0, 0, 0, 0]), jgh, jgh, jgh, jgh, jgh, jgh, jgh, jgh, jgh, jgh, jzA_324, jgh, jgh, jgh, jgh, (100, [], (jenc (jlg 0))), jgh, jgh, jgh, jgh, jgh, (4, [(4, 44), (1, 1)], []), (101, [], [0, 0, 0, 0, 0, 0])]) (rfl) (by simp only [List.cons.injEq, Prod.mk.injEq, and_true, true_and] <;> ((try unfold jw); (try unfold jwl); omega)) (rfl) ?_
  refine jT_xaload_n (v := (6, 0)) (pcN := 1877) jI_379_1876 rfl rfl rfl ?_
  refine jT_xiload (v := (0, 0)) (pcN := 1879) jI_379_1877 rfl rfl rfl ?_
  refine jT_xiconst (k := 3) (pcN := 1880) jI_379_1879 rfl ?_
  refine jT_xiadd (x := 0) (y := 3) (z := 3) (pcN := 1881) jI_379_1880 rfl (by decide) rfl ?_
  refine jT_adv 1 (pcN := 1882) (LN := [(5, (0, 0)), (4, (4, 3)), (3, (4, 2)), (2, (4, 1)), (1, (4, 0)), (0, (6, 0))]) (stN := [(0, x3), (0, 9), (0, x1), (4, 0)]) (hsN := jpA_4078) (c1 := 0) (s1 := 0) (c2 := 10) (s2 := 360) (by exact rfl) ?_ (by omega) (by omega)
  refine jT_eq (LN := [(5, (0, 0)), (4, (4, 3)), (3, (4, 2)), (2, (4, 1)), (1, (4, 0)), (0, (6, 0))]) (stN := [(0, 2), (0, 9), (0, x1), (4, 0)]) (hsN := [jzA_265, jzA_266, (101, [], [0]), jgh, (8, [(4, 30), (4, 31)], []), jgh, jgh, jgh, jgh, jgh, jgh, jgh, jgh, jgh, jzA_721, (100, [], jS0), jgh, jgh, jgh, jgh, (130, [], [37, 38, 39, 40, 41, 42]), (101, [], [0, 0, 0, 0, 0, 0]), jgh, jgh, jgh, jgh, jgh, jgh, jgh, jgh, jgh, jgh, jzA_324, jgh, jgh, jgh, jgh, (100, [], (jenc (jlg 0))), jgh, jgh, jgh, jgh, jgh, (4, [(4, 44), (1, 1)], []), (101, [], [0, 0, 0, 0, 0, 0])]) (rfl) (by simp only [List.cons.injEq, Prod.mk.injEq, and_true, true_and] <;> ((try unfold jw); (try unfold jwl); omega)) (rfl) ?_
  refine jT_xaload_n (v := (4, 2)) (pcN := 1883) jI_379_1882 rfl rfl rfl ?_
  refine jT_fR [0, 2, 4, 5, 6, 7, 8, 9, 10, 11, 12, 13, 14, 30, 31, 32, 33, 34, 35, 36, 43, 44] 45 (y := 347) (pcN := 1886) (dC := 6) (bc1 := 0) (bc2 := 0) (c1 := 10) (c2 := 360) (as := [(4, 0), (0, x1), (0, 9), (0, 2), (4, 2)]) (asC := [(4, 0), (0, x1), (0, 9), (0, 2), (4, 1)]) (LN := [(5, (0, 0)), (4, (4, 3)), (3, (4, 2)), (2, (4, 1)), (1, (4, 0)), (0, (6, 0))]) (stN := []) (hsC := jpA_4038) (v := (0, 0)) (st2 := [(0, 0)]) (jA_347_1528 (d := 0) (by omega)) (by rfl) (by rfl) (by decide +kernel) (by rfl) (by rfl) (by omega) (by omega) (by omega) (by omega) rfl ?_
  refine jT_xistore (v := (0, 0)) (LN := [(6, (0, 0)), (5, (0, 0)), (4, (4, 3)), (3, (4, 2)), (2, (4, 1)), (1, (4, 0)), (0, (6, 0))]) (pcN := 1888) jI_379_1886 rfl rfl rfl rfl ?_
  refine jT_xaload_n (v := (4, 1)) (pcN := 1889) jI_379_1888 rfl rfl rfl ?_
  refine jT_xaload_n (v := (6, 0)) (pcN := 1890) jI_379_1889 rfl rfl rfl ?_
  refine jT_xiload (v := (0, 0)) (pcN := 1892) jI_379_1890 rfl rfl rfl ?_
  refine jT_xiconst (k := 1) (pcN := 1893) jI_379_1892 rfl ?_
  refine jT_xiadd (x := 0) (y := 1) (z := 1) (pcN := 1894) jI_379_1893 rfl (by decide) rfl ?_
  refine jT_adv 1 (pcN := 1895) (LN := [(6, (0, 0)), (5, (0, 0)), (4, (4, 3)), (3, (4, 2)), (2, (4, 1)), (1, (4, 0)), (0, (6, 0))]) (stN := [(0, x1), (4, 1)]) (hsN := jpA_4078) (c1 := 0) (s1 := 0) (c2 := 10) (s2 := 360) (by exact rfl) ?_ (by omega) (by omega)
  refine jT_xaload_n (v := (6, 0)) (pcN := 1896) jI_379_1895 rfl rfl rfl ?_
  refine jT_xiload (v := (0, 0)) (pcN := 1898) jI_379_1896 rfl rfl rfl ?_
  refine jT_xiconst (k := 2) (pcN := 1899) jI_379_1898 rfl ?_
  refine jT_xiadd (x := 0) (y := 2) (z := 2) (pcN := 1900) jI_379_1899 rfl (by decide) rfl ?_
  refine jT_adv 1 (pcN := 1901) (LN := [(6, (0, 0)), (5, (0, 0)), (4, (4, 3)), (3, (4, 2)), (2, (4, 1)), (1, (4, 0)), (0, (6, 0))]) (stN := [(0, x2), (0, x1), (4, 1)]) (hsN := jpA_4078) (c1 := 0) (s1 := 0) (c2 := 10) (s2 := 360) (by exact rfl) ?_ (by omega) (by omega)
  refine jT_eq (LN := [(6, (0, 0)), (5, (0, 0)), (4, (4, 3)), (3, (4, 2)), (2, (4, 1)), (1, (4, 0)), (0, (6, 0))]) (stN := [(0, 9), (0, x1), (4, 1)]) (hsN := [jzA_265, jzA_266, (101, [], [0]), jgh, (8, [(4, 30), (4, 31)], []), jgh, jgh, jgh, jgh, jgh, jgh, jgh, jgh, jgh, jzA_721, (100, [], jS0), jgh, jgh, jgh, jgh, (130, [], [37, 38, 39, 40, 41, 42]), (101, [], [0, 0, 0, 0, 0, 0]), jgh, jgh, jgh, jgh, jgh, jgh, jgh, jgh, jgh, jgh, jzA_324, jgh, jgh, jgh, jgh, (100, [], (jenc (jlg 0))), jgh, jgh, jgh, jgh, jgh, (4, [(4, 44), (1, 1)], []), (101, [], [0, 0, 0, 0, 0, 0])]) (rfl) (by simp only [List.cons.injEq, Prod.mk.injEq, and_true, true_and] <;> ((try unfold jw); (try unfold jwl); omega)) (rfl) ?_
  refine jT_xaload_n (v := (6, 0)) (pcN := 1902) jI_379_1901 rfl rfl rfl ?_
  refine jT_xiload (v := (0, 0)) (pcN := 1904) jI_379_1902 rfl rfl rfl ?_
  refine jT_xiconst (k := 3) (pcN := 1905) jI_379_1904 rfl ?_
  refine jT_xiadd (x := 0) (y := 3) (z := 3) (pcN := 1906) jI_379_1905 rfl (by decide) rfl ?_
  refine jT_adv 1 (pcN := 1907) (LN := [(6, (0, 0)), (5, (0, 0)), (4, (4, 3)), (3, (4, 2)), (2, (4, 1)), (1, (4, 0)), (0, (6, 0))]) (stN := [(0, x3), (0, 9), (0, x1), (4, 1)]) (hsN := jpA_4078) (c1 := 0) (s1 := 0) (c2 := 10) (s2 := 360) (by exact rfl) ?_ (by omega) (by omega)
  refine jT_eq (LN := [(6, (0, 0)), (5, (0, 0)), (4, (4, 3)), (3, (4, 2)), (2, (4, 1)), (1, (4, 0)), (0, (6, 0))]) (stN := [(0, 2), (0, 9), (0, x1), (4, 1)]) (hsN := [jzA_265, jzA_266, (101, [], [0]), jgh, (8, [(4, 30), (4, 31)], []), jgh, jgh, jgh, jgh, jgh, jgh, jgh, jgh, jgh, jzA_721, (100, [], jS0), jgh, jgh, jgh, jgh, (130, [], [37, 38, 39, 40, 41, 42]), (101, [], [0, 0, 0, 0, 0, 0]), jgh, jgh, jgh, jgh, jgh, jgh, jgh, jgh, jgh, jgh, jzA_324, jgh, jgh, jgh, jgh, (100, [], (jenc (jlg 0))), jgh, jgh, jgh, jgh, jgh, (4, [(4, 44), (1, 1)], []), (101, [], [0, 0, 0, 0, 0, 0])]) (rfl) (by simp only [List.cons.injEq, Prod.mk.injEq, and_true, true_and] <;> ((try unfold jw); (try unfold jwl); omega)) (rfl) ?_
  refine jT_fA [1, 15, 16, 17, 18, 19, 20, 21, 22, 23, 24, 25, 26, 27, 28, 29, 37, 38, 39, 40, 41, 42] 45 (y := 263) (pcN := 1910) (dC := 8) (bc1 := 10) (bc2 := 360) (c1 := 0) (c2 := 0) (as := [(4, 1), (0, x1), (0, 9), (0, 2)]) (asC := [(4, 0), (0, x1), (0, 9), (0, 2)]) (LN := [(6, (0, 0)), (5, (0, 0)), (4, (4, 3)), (3, (4, 2)), (2, (4, 1)), (1, (4, 0)), (0, (6, 0))]) (stN := []) (hsC := jpA_1695) (ex := jpA_3654) (v := (1, 0)) (st2 := [(1, 0)]) (hs2 := jpA_4079) (jA_263_1530 (d := 0) (by omega)) (by rfl) (by rfl) (by decide +kernel) (by rfl) (by rfl) (by omega) (by omega) (by omega) (by omega) rfl (by decide +kernel) ?_
  refine jT_xlstore (v := (1, 0)) (LN := [(7, (1, 0)), (6, (0, 0)), (5, (0, 0)), (4, (4, 3)), (3, (4, 2)), (2, (4, 1)), (1, (4, 0)), (0, (6, 0))]) (pcN := 1912) jI_379_1910 rfl rfl rfl rfl ?_
  refine jT_xaload_n (v := (4, 1)) (pcN := 1913) jI_379_1912 rfl rfl rfl ?_
  refine jT_fR [1, 15, 16, 17, 18, 19, 20, 21, 22, 23, 24, 25, 26, 27, 28, 29] 55 (y := 186) (pcN := 1916) (dC := 0) (bc1 := 0) (bc2 := 0) (c1 := 0) (c2 := 0) (as := [(4, 1)]) (asC := [(4, 0)]) (LN := [(7, (1, 0)), (6, (0, 0)), (5, (0, 0)), (4, (4, 3)), (3, (4, 2)), (2, (4, 1)), (1, (4, 0)), (0, (6, 0))]) (stN := []) (hsC := jpA_22) (v := (0, 0)) (st2 := [(0, 0)]) (jA_186_726 (d := 0)) (by rfl) (by rfl) (by decide +kernel) (by rfl) (by rfl) (by omega) (by omega) (by omega) (by omega) rfl ?_
  refine jT_xiload (v := (0, 0)) (pcN := 1918) jI_379_1916 rfl rfl rfl ?_
  refine jT_xicT (pcN := 1923) jI_379_1918 rfl (by decide +kernel) rfl ?_
  refine jT_xiload (v := (0, 0)) (pcN := 1925) jI_379_1923 rfl rfl rfl ?_
  refine jT_xifF (t := 1939) (pcN := 1928) jI_379_1925 rfl (by decide +kernel) rfl rfl ?_
  refine jT_xaload_n (v := (4, 2)) (pcN := 1929) jI_379_1928 rfl rfl rfl ?_
  refine jT_xiconst (k := 0) (pcN := 1930) jI_379_1929 rfl ?_
  refine jT_lald (x := 0) (a := 2) (j := 0) (fs := []) (X := [0]) jI_379_1930 rfl rfl rfl rfl ?_
  refine jT_eq (LN := [(7, (1, 0)), (6, (0, 0)), (5, (0, 0)), (4, (4, 3)), (3, (4, 2)), (2, (4, 1)), (1, (4, 0)), (0, (6, 0))]) (stN := [(1, 0)]) (hsN := jpA_4079) rfl rfl rfl ?_
  refine jT_xlload (v := (1, 0)) (pcN := 1933) jI_379_1931 rfl rfl rfl ?_
  refine jT_lcmp (a := 0) (b := 0) (z := 0) (by rfl) (by rfl) (by decide +kernel) (by decide +kernel) (by decide) ?_
  refine jT_xifT (pcN := 1939) jI_379_1934 rfl (by decide +kernel) rfl ?_
  refine jT_xgoto (pcN := 3740) jI_379_1939 rfl ?_
  refine jT_xiinc (x := 0) (z := 5) (LN := [(5, (0, 5)), (7, (1, 0)), (6, (0, 0)), (4, (4, 3)), (3, (4, 2)), (2, (4, 1)), (1, (4, 0)), (0, (6, 0))]) (pcN := 3743) jI_379_3740 rfl rfl (by decide) rfl rfl ?_
  refine jT_xgoto (pcN := 28) jI_379_3743 rfl ?_
  refine jT_xiload (v := (0, 5)) (pcN := 30) jI_379_28 rfl rfl rfl ?_
  refine jT_xaload_n (v := (6, 0)) (pcN := 31) jI_379_30 rfl rfl rfl ?_
  refine jT_adv 1 (pcN := 32) (LN := [(5, (0, 5)), (7, (1, 0)), (6, (0, 0)), (4, (4, 3)), (3, (4, 2)), (2, (4, 1)), (1, (4, 0)), (0, (6, 0))]) (stN := [(0, 5), (0, 5)]) (hsN := jpA_4079) (c1 := 0) (s1 := 0) (c2 := 0) (s2 := 0) (by exact rfl) ?_ (by omega) (by omega)
  refine jT_xiconst (k := 5) (pcN := 33) jI_379_32 rfl ?_
  refine jT_xisub (x := 5) (y := 5) (z := 0) (pcN := 34) jI_379_33 rfl (by decide) rfl ?_
  refine jT_xicT (pcN := 3746) jI_379_34 rfl (by decide +kernel) rfl ?_
  refine jT_xiconst (k := 1) (pcN := 3747) jI_379_3746 rfl ?_
  exact jT_ret rfl (by decide) (by show 45 ≤ 55; decide) (by omega) (by omega) ⟨rfl, rfl⟩
set_option maxRecDepth 100000 in
theorem jL_22_33 {d : Nat} {x0 x1 x2 x3 x4 : Int} (h_x0 : (-2147483648) ≤ x0 ∧ x0 ≤ 2147483647) (h_x1 : 0 ≤ x1 ∧ x1 ≤ 7) (h_x2 : 0 ≤ x2 ∧ x2 ≤ 9) (h_x3 : 3 ≤ x3 ∧ x3 ≤ 2147483647) (h_x4 : (-2147483648) ≤ x4 ∧ x4 ≤ 2147483647) : jT [x0, x1, x2, x3, x4] (d + 3) 379 30 1863 [(5, (0, 0)), (4, (4, 3)), (3, (4, 2)), (2, (4, 1)), (1, (4, 0)), (0, (6, 0))] [] jpA_267 1 6 (fun k v hsN => k = 0 ∧ v = (0, 1)) := by
  refine jT_xaload_n (v := (4, 0)) (pcN := 1864) jI_379_1863 rfl rfl rfl ?_
  refine jT_xaload_n (v := (6, 0)) (pcN := 1865) jI_379_1864 rfl rfl rfl ?_
  refine jT_xiload (v := (0, 0)) (pcN := 1867) jI_379_1865 rfl rfl rfl ?_
  refine jT_xiconst (k := 1) (pcN := 1868) jI_379_1867 rfl ?_
  refine jT_xiadd (x := 0) (y := 1) (z := 1) (pcN := 1869) jI_379_1868 rfl (by decide) rfl ?_
  refine jT_adv 1 (pcN := 1870) (LN := [(5, (0, 0)), (4, (4, 3)), (3, (4, 2)), (2, (4, 1)), (1, (4, 0)), (0, (6, 0))]) (stN := [(0, x1), (4, 0)]) (hsN := jpA_267) (c1 := 0) (s1 := 0) (c2 := 1) (s2 := 6) (by exact rfl) ?_ (by omega) (by omega)
  refine jT_xaload_n (v := (6, 0)) (pcN := 1871) jI_379_1870 rfl rfl rfl ?_
  refine jT_xiload (v := (0, 0)) (pcN := 1873) jI_379_1871 rfl rfl rfl ?_
  refine jT_xiconst (k := 2) (pcN := 1874) jI_379_1873 rfl ?_
  refine jT_xiadd (x := 0) (y := 2) (z := 2) (pcN := 1875) jI_379_1874 rfl (by decide) rfl ?_
  refine jT_adv 1 (pcN := 1876) (LN := [(5, (0, 0)), (4, (4, 3)), (3, (4, 2)), (2, (4, 1)), (1, (4, 0)), (0, (6, 0))]) (stN := [(0, x2), (0, x1), (4, 0)]) (hsN := jpA_267) (c1 := 0) (s1 := 0) (c2 := 1) (s2 := 6) (by exact rfl) ?_ (by omega) (by omega)
  refine jT_xaload_n (v := (6, 0)) (pcN := 1877) jI_379_1876 rfl rfl rfl ?_
  refine jT_xiload (v := (0, 0)) (pcN := 1879) jI_379_1877 rfl rfl rfl ?_
  refine jT_xiconst (k := 3) (pcN := 1880) jI_379_1879 rfl ?_
  refine jT_xiadd (x := 0) (y := 3) (z := 3) (pcN := 1881) jI_379_1880 rfl (by decide) rfl ?_
  refine jT_adv 1 (pcN := 1882) (LN := [(5, (0, 0)), (4, (4, 3)), (3, (4, 2)), (2, (4, 1)), (1, (4, 0)), (0, (6, 0))]) (stN := [(0, x3), (0, x2), (0, x1), (4, 0)]) (hsN := jpA_267) (c1 := 0) (s1 := 0) (c2 := 1) (s2 := 6) (by exact rfl) ?_ (by omega) (by omega)
  refine jT_xaload_n (v := (4, 2)) (pcN := 1883) jI_379_1882 rfl rfl rfl ?_
  refine jT_fR [0, 2, 4, 5, 6, 7, 8, 9, 10, 11, 12, 13, 14] 30 (y := 347) (pcN := 1886) (dC := 2) (bc1 := 1) (bc2 := 6) (c1 := 0) (c2 := 0) (as := [(4, 0), (0, x1), (0, x2), (0, x3), (4, 2)]) (asC := [(4, 0), (0, x1), (0, x2), (0, x3), (4, 1)]) (LN := [(5, (0, 0)), (4, (4, 3)), (3, (4, 2)), (2, (4, 1)), (1, (4, 0)), (0, (6, 0))]) (stN := []) (hsC := jpA_15) (v := (0, 2)) (st2 := [(0, 2)]) (jA_347_1533 (d := 0) (by omega) (by omega) (by omega)) (by rfl) (by rfl) (by decide +kernel) (by rfl) (by rfl) (by omega) (by omega) (by omega) (by omega) rfl ?_
  refine jT_xistore (v := (0, 2)) (LN := [(6, (0, 2)), (5, (0, 0)), (4, (4, 3)), (3, (4, 2)), (2, (4, 1)), (1, (4, 0)), (0, (6, 0))]) (pcN := 1888) jI_379_1886 rfl rfl rfl rfl ?_
  refine jT_xaload_n (v := (4, 1)) (pcN := 1889) jI_379_1888 rfl rfl rfl ?_
  refine jT_xaload_n (v := (6, 0)) (pcN := 1890) jI_379_1889 rfl rfl rfl ?_
  refine jT_xiload (v := (0, 0)) (pcN := 1892) jI_379_1890 rfl rfl rfl ?_
  refine jT_xiconst (k := 1) (pcN := 1893) jI_379_1892 rfl ?_
  refine jT_xiadd (x := 0) (y := 1) (z := 1) (pcN := 1894) jI_379_1893 rfl (by decide) rfl ?_
  refine jT_adv 1 (pcN := 1895) (LN := [(6, (0, 2)), (5, (0, 0)), (4, (4, 3)), (3, (4, 2)), (2, (4, 1)), (1, (4, 0)), (0, (6, 0))]) (stN := [(0, x1), (4, 1)]) (hsN := jpA_267) (c1 := 0) (s1 := 0) (c2 := 0) (s2 := 0) (by exact rfl) ?_ (by omega) (by omega)
  refine jT_xaload_n (v := (6, 0)) (pcN := 1896) jI_379_1895 rfl rfl rfl ?_
  refine jT_xiload (v := (0, 0)) (pcN := 1898) jI_379_1896 rfl rfl rfl ?_
  refine jT_xiconst (k := 2) (pcN := 1899) jI_379_1898 rfl ?_
  refine jT_xiadd (x := 0) (y := 2) (z := 2) (pcN := 1900) jI_379_1899 rfl (by decide) rfl ?_
  refine jT_adv 1 (pcN := 1901) (LN := [(6, (0, 2)), (5, (0, 0)), (4, (4, 3)), (3, (4, 2)), (2, (4, 1)), (1, (4, 0)), (0, (6, 0))]) (stN := [(0, x2), (0, x1), (4, 1)]) (hsN := jpA_267) (c1 := 0) (s1 := 0) (c2 := 0) (s2 := 0) (by exact rfl) ?_ (by omega) (by omega)
  refine jT_xaload_n (v := (6, 0)) (pcN := 1902) jI_379_1901 rfl rfl rfl ?_
  refine jT_xiload (v := (0, 0)) (pcN := 1904) jI_379_1902 rfl rfl rfl ?_
  refine jT_xiconst (k := 3) (pcN := 1905) jI_379_1904 rfl ?_
  refine jT_xiadd (x := 0) (y := 3) (z := 3) (pcN := 1906) jI_379_1905 rfl (by decide) rfl ?_
  refine jT_adv 1 (pcN := 1907) (LN := [(6, (0, 2)), (5, (0, 0)), (4, (4, 3)), (3, (4, 2)), (2, (4, 1)), (1, (4, 0)), (0, (6, 0))]) (stN := [(0, x3), (0, x2), (0, x1), (4, 1)]) (hsN := jpA_267) (c1 := 0) (s1 := 0) (c2 := 0) (s2 := 0) (by exact rfl) ?_ (by omega) (by omega)
  refine jT_fB [1, 15, 16, 17, 18, 19, 20, 21, 22, 23, 24, 25, 26, 27, 28, 29] 30 (y := 263) (pcN := 1910) (dC := 2) (bc1 := 0) (bc2 := 0) (c1 := 0) (c2 := 0) (as := [(4, 1), (0, x1), (0, x2), (0, x3)]) (asC := [(4, 0), (0, x1), (0, x2), (0, x3)]) (LN := [(6, (0, 2)), (5, (0, 0)), (4, (4, 3)), (3, (4, 2)), (2, (4, 1)), (1, (4, 0)), (0, (6, 0))]) (stN := []) (hsC := jpA_22) (hsD := jpA_361) (v := (1, 0)) (st2 := [(1, 0)]) (hs2 := jpA_607) (jA_263_1534 (d := 0) (by omega) (by omega) (by omega)) (by rfl) (by rfl) (by decide +kernel) (by rfl) (by rfl) (by omega) (by omega) (by omega) (by omega) rfl (by decide +kernel) ?_
  refine jT_xlstore (v := (1, 0)) (LN := [(7, (1, 0)), (6, (0, 2)), (5, (0, 0)), (4, (4, 3)), (3, (4, 2)), (2, (4, 1)), (1, (4, 0)), (0, (6, 0))]) (pcN := 1912) jI_379_1910 rfl rfl rfl rfl ?_
  refine jT_xaload_n (v := (4, 1)) (pcN := 1913) jI_379_1912 rfl rfl rfl ?_
  refine jT_fR [1, 15, 16, 17, 18, 19, 20, 21, 22, 23, 24, 25, 26, 27, 28, 29] 30 (y := 186) (pcN := 1916) (dC := 0) (bc1 := 0) (bc2 := 0) (c1 := 0) (c2 := 0) (as := [(4, 1)]) (asC := [(4, 0)]) (LN := [(7, (1, 0)), (6, (0, 2)), (5, (0, 0)), (4, (4, 3)), (3, (4, 2)), (2, (4, 1)), (1, (4, 0)), (0, (6, 0))]) (stN := []) (hsC := jpA_361) (v := (0, 2)) (st2 := [(0, 2)]) (jA_186_101 (d := 0)) (by rfl) (by rfl) (by decide +kernel) (by rfl) (by rfl) (by omega) (by omega) (by omega) (by omega) rfl ?_
  refine jT_xiload (v := (0, 2)) (pcN := 1918) jI_379_1916 rfl rfl rfl ?_
  refine jT_xicT (pcN := 1923) jI_379_1918 rfl (by decide +kernel) rfl ?_
  refine jT_xiload (v := (0, 2)) (pcN := 1925) jI_379_1923 rfl rfl rfl ?_
  refine jT_xifT (pcN := 1939) jI_379_1925 rfl (by decide +kernel) rfl ?_
  refine jT_xgoto (pcN := 3740) jI_379_1939 rfl ?_
  refine jT_xiinc (x := 0) (z := 5) (LN := [(5, (0, 5)), (7, (1, 0)), (6, (0, 2)), (4, (4, 3)), (3, (4, 2)), (2, (4, 1)), (1, (4, 0)), (0, (6, 0))]) (pcN := 3743) jI_379_3740 rfl rfl (by decide) rfl rfl ?_
  refine jT_xgoto (pcN := 28) jI_379_3743 rfl ?_
  refine jT_xiload (v := (0, 5)) (pcN := 30) jI_379_28 rfl rfl rfl ?_
  refine jT_xaload_n (v := (6, 0)) (pcN := 31) jI_379_30 rfl rfl rfl ?_
  refine jT_adv 1 (pcN := 32) (LN := [(5, (0, 5)), (7, (1, 0)), (6, (0, 2)), (4, (4, 3)), (3, (4, 2)), (2, (4, 1)), (1, (4, 0)), (0, (6, 0))]) (stN := [(0, 5), (0, 5)]) (hsN := jpA_607) (c1 := 0) (s1 := 0) (c2 := 0) (s2 := 0) (by exact rfl) ?_ (by omega) (by omega)
  refine jT_xiconst (k := 5) (pcN := 33) jI_379_32 rfl ?_
  refine jT_xisub (x := 5) (y := 5) (z := 0) (pcN := 34) jI_379_33 rfl (by decide) rfl ?_
  refine jT_xicT (pcN := 3746) jI_379_34 rfl (by decide +kernel) rfl ?_
  refine jT_xiconst (k := 1) (pcN := 3747) jI_379_3746 rfl ?_
  exact jT_ret rfl (by decide) (by show 30 ≤ 30; decide) (by omega) (by omega) ⟨rfl, rfl⟩
set_option maxRecDepth 100000 in
theorem jL_22_34 {d : Nat} {x0 x1 x2 x3 x4 : Int} (h_x0 : (-2147483648) ≤ x0 ∧ x0 ≤ 2147483647) (h_x1 : 0 ≤ x1 ∧ x1 ≤ 7) (h_x2 : 10 ≤ x2 ∧ x2 ≤ 2147483647) (h_x3 : (-2147483648) ≤ x3 ∧ x3 ≤ 2147483647) (h_x4 : (-2147483648) ≤ x4 ∧ x4 ≤ 2147483647) : jT [x0, x1, x2, x3, x4] (d + 3) 379 30 1863 [(5, (0, 0)), (4, (4, 3)), (3, (4, 2)), (2, (4, 1)), (1, (4, 0)), (0, (6, 0))] [] jpA_267 1 6 (fun k v hsN => k = 0 ∧ v = (0, 1)) := by
  refine jT_xaload_n (v := (4, 0)) (pcN := 1864) jI_379_1863 rfl rfl rfl ?_
  refine jT_xaload_n (v := (6, 0)) (pcN := 1865) jI_379_1864 rfl rfl rfl ?_
  refine jT_xiload (v := (0, 0)) (pcN := 1867) jI_379_1865 rfl rfl rfl ?_
  refine jT_xiconst (k := 1) (pcN := 1868) jI_379_1867 rfl ?_
  refine jT_xiadd (x := 0) (y := 1) (z := 1) (pcN := 1869) jI_379_1868 rfl (by decide) rfl ?_
  refine jT_adv 1 (pcN := 1870) (LN := [(5, (0, 0)), (4, (4, 3)), (3, (4, 2)), (2, (4, 1)), (1, (4, 0)), (0, (6, 0))]) (stN := [(0, x1), (4, 0)]) (hsN := jpA_267) (c1 := 0) (s1 := 0) (c2 := 1) (s2 := 6) (by exact rfl) ?_ (by omega) (by omega)
  refine jT_xaload_n (v := (6, 0)) (pcN := 1871) jI_379_1870 rfl rfl rfl ?_
  refine jT_xiload (v := (0, 0)) (pcN := 1873) jI_379_1871 rfl rfl rfl ?_
  refine jT_xiconst (k := 2) (pcN := 1874) jI_379_1873 rfl ?_
  refine jT_xiadd (x := 0) (y := 2) (z := 2) (pcN := 1875) jI_379_1874 rfl (by decide) rfl ?_
  refine jT_adv 1 (pcN := 1876) (LN := [(5, (0, 0)), (4, (4, 3)), (3, (4, 2)), (2, (4, 1)), (1, (4, 0)), (0, (6, 0))]) (stN := [(0, x2), (0, x1), (4, 0)]) (hsN := jpA_267) (c1 := 0) (s1 := 0) (c2 := 1) (s2 := 6) (by exact rfl) ?_ (by omega) (by omega)
  refine jT_xaload_n (v := (6, 0)) (pcN := 1877) jI_379_1876 rfl rfl rfl ?_
  refine jT_xiload (v := (0, 0)) (pcN := 1879) jI_379_1877 rfl rfl rfl ?_
  refine jT_xiconst (k := 3) (pcN := 1880) jI_379_1879 rfl ?_
  refine jT_xiadd (x := 0) (y := 3) (z := 3) (pcN := 1881) jI_379_1880 rfl (by decide) rfl ?_
  refine jT_adv 1 (pcN := 1882) (LN := [(5, (0, 0)), (4, (4, 3)), (3, (4, 2)), (2, (4, 1)), (1, (4, 0)), (0, (6, 0))]) (stN := [(0, x3), (0, x2), (0, x1), (4, 0)]) (hsN := jpA_267) (c1 := 0) (s1 := 0) (c2 := 1) (s2 := 6) (by exact rfl) ?_ (by omega) (by omega)
  refine jT_xaload_n (v := (4, 2)) (pcN := 1883) jI_379_1882 rfl rfl rfl ?_
  refine jT_fR [0, 2, 4, 5, 6, 7, 8, 9, 10, 11, 12, 13, 14] 30 (y := 347) (pcN := 1886) (dC := 2) (bc1 := 1) (bc2 := 6) (c1 := 0) (c2 := 0) (as := [(4, 0), (0, x1), (0, x2), (0, x3), (4, 2)]) (asC := [(4, 0), (0, x1), (0, x2), (0, x3), (4, 1)]) (LN := [(5, (0, 0)), (4, (4, 3)), (3, (4, 2)), (2, (4, 1)), (1, (4, 0)), (0, (6, 0))]) (stN := []) (hsC := jpA_15) (v := (0, 2)) (st2 := [(0, 2)]) (jA_347_1537 (d := 0) (by omega) (by omega) (by omega)) (by rfl) (by rfl) (by decide +kernel) (by rfl) (by rfl) (by omega) (by omega) (by omega) (by omega) rfl ?_
  refine jT_xistore (v := (0, 2)) (LN := [(6, (0, 2)), (5, (0, 0)), (4, (4, 3)), (3, (4, 2)), (2, (4, 1)), (1, (4, 0)), (0, (6, 0))]) (pcN := 1888) jI_379_1886 rfl rfl rfl rfl ?_
  refine jT_xaload_n (v := (4, 1)) (pcN := 1889) jI_379_1888 rfl rfl rfl ?_
  refine jT_xaload_n (v := (6, 0)) (pcN := 1890) jI_379_1889 rfl rfl rfl ?_
  refine jT_xiload (v := (0, 0)) (pcN := 1892) jI_379_1890 rfl rfl rfl ?_
  refine jT_xiconst (k := 1) (pcN := 1893) jI_379_1892 rfl ?_
  refine jT_xiadd (x := 0) (y := 1) (z := 1) (pcN := 1894) jI_379_1893 rfl (by decide) rfl ?_
  refine jT_adv 1 (pcN := 1895) (LN := [(6, (0, 2)), (5, (0, 0)), (4, (4, 3)), (3, (4, 2)), (2, (4, 1)), (1, (4, 0)), (0, (6, 0))]) (stN := [(0, x1), (4, 1)]) (hsN := jpA_267) (c1 := 0) (s1 := 0) (c2 := 0) (s2 := 0) (by exact rfl) ?_ (by omega) (by omega)
  refine jT_xaload_n (v := (6, 0)) (pcN := 1896) jI_379_1895 rfl rfl rfl ?_
  refine jT_xiload (v := (0, 0)) (pcN := 1898) jI_379_1896 rfl rfl rfl ?_
  refine jT_xiconst (k := 2) (pcN := 1899) jI_379_1898 rfl ?_
  refine jT_xiadd (x := 0) (y := 2) (z := 2) (pcN := 1900) jI_379_1899 rfl (by decide) rfl ?_
  refine jT_adv 1 (pcN := 1901) (LN := [(6, (0, 2)), (5, (0, 0)), (4, (4, 3)), (3, (4, 2)), (2, (4, 1)), (1, (4, 0)), (0, (6, 0))]) (stN := [(0, x2), (0, x1), (4, 1)]) (hsN := jpA_267) (c1 := 0) (s1 := 0) (c2 := 0) (s2 := 0) (by exact rfl) ?_ (by omega) (by omega)
  refine jT_xaload_n (v := (6, 0)) (pcN := 1902) jI_379_1901 rfl rfl rfl ?_
  refine jT_xiload (v := (0, 0)) (pcN := 1904) jI_379_1902 rfl rfl rfl ?_
  refine jT_xiconst (k := 3) (pcN := 1905) jI_379_1904 rfl ?_
  refine jT_xiadd (x := 0) (y := 3) (z := 3) (pcN := 1906) jI_379_1905 rfl (by decide) rfl ?_
  refine jT_adv 1 (pcN := 1907) (LN := [(6, (0, 2)), (5, (0, 0)), (4, (4, 3)), (3, (4, 2)), (2, (4, 1)), (1, (4, 0)), (0, (6, 0))]) (stN := [(0, x3), (0, x2), (0, x1), (4, 1)]) (hsN := jpA_267) (c1 := 0) (s1 := 0) (c2 := 0) (s2 := 0) (by exact rfl) ?_ (by omega) (by omega)
  refine jT_fB [1, 15, 16, 17, 18, 19, 20, 21, 22, 23, 24, 25, 26, 27, 28, 29] 30 (y := 263) (pcN := 1910) (dC := 2) (bc1 := 0) (bc2 := 0) (c1 := 0) (c2 := 0) (as := [(4, 1), (0, x1), (0, x2), (0, x3)]) (asC := [(4, 0), (0, x1), (0, x2), (0, x3)]) (LN := [(6, (0, 2)), (5, (0, 0)), (4, (4, 3)), (3, (4, 2)), (2, (4, 1)), (1, (4, 0)), (0, (6, 0))]) (stN := []) (hsC := jpA_22) (hsD := jpA_361) (v := (1, 0)) (st2 := [(1, 0)]) (hs2 := jpA_607) (jA_263_1538 (d := 0) (by omega) (by omega) (by omega)) (by rfl) (by rfl) (by decide +kernel) (by rfl) (by rfl) (by omega) (by omega) (by omega) (by omega) rfl (by decide +kernel) ?_
  refine jT_xlstore (v := (1, 0)) (LN := [(7, (1, 0)), (6, (0, 2)), (5, (0, 0)), (4, (4, 3)), (3, (4, 2)), (2, (4, 1)), (1, (4, 0)), (0, (6, 0))]) (pcN := 1912) jI_379_1910 rfl rfl rfl rfl ?_
  refine jT_xaload_n (v := (4, 1)) (pcN := 1913) jI_379_1912 rfl rfl rfl ?_
  refine jT_fR [1, 15, 16, 17, 18, 19, 20, 21, 22, 23, 24, 25, 26, 27, 28, 29] 30 (y := 186) (pcN := 1916) (dC := 0) (bc1 := 0) (bc2 := 0) (c1 := 0) (c2 := 0) (as := [(4, 1)]) (asC := [(4, 0)]) (LN := [(7, (1, 0)), (6, (0, 2)), (5, (0, 0)), (4, (4, 3)), (3, (4, 2)), (2, (4, 1)), (1, (4, 0)), (0, (6, 0))]) (stN := []) (hsC := jpA_361) (v := (0, 2)) (st2 := [(0, 2)]) (jA_186_101 (d := 0)) (by rfl) (by rfl) (by decide +kernel) (by rfl) (by rfl) (by omega) (by omega) (by omega) (by omega) rfl ?_
  refine jT_xiload (v := (0, 2)) (pcN := 1918) jI_379_1916 rfl rfl rfl ?_
  refine jT_xicT (pcN := 1923) jI_379_1918 rfl (by decide +kernel) rfl ?_
  refine jT_xiload (v := (0, 2)) (pcN := 1925) jI_379_1923 rfl rfl rfl ?_
  refine jT_xifT (pcN := 1939) jI_379_1925 rfl (by decide +kernel) rfl ?_
  refine jT_xgoto (pcN := 3740) jI_379_1939 rfl ?_
  refine jT_xiinc (x := 0) (z := 5) (LN := [(5, (0, 5)), (7, (1, 0)), (6, (0, 2)), (4, (4, 3)), (3, (4, 2)), (2, (4, 1)), (1, (4, 0)), (0, (6, 0))]) (pcN := 3743) jI_379_3740 rfl rfl (by decide) rfl rfl ?_
  refine jT_xgoto (pcN := 28) jI_379_3743 rfl ?_
  refine jT_xiload (v := (0, 5)) (pcN := 30) jI_379_28 rfl rfl rfl ?_
  refine jT_xaload_n (v := (6, 0)) (pcN := 31) jI_379_30 rfl rfl rfl ?_
  refine jT_adv 1 (pcN := 32) (LN := [(5, (0, 5)), (7, (1, 0)), (6, (0, 2)), (4, (4, 3)), (3, (4, 2)), (2, (4, 1)), (1, (4, 0)), (0, (6, 0))]) (stN := [(0, 5), (0, 5)]) (hsN := jpA_607) (c1 := 0) (s1 := 0) (c2 := 0) (s2 := 0) (by exact rfl) ?_ (by omega) (by omega)
  refine jT_xiconst (k := 5) (pcN := 33) jI_379_32 rfl ?_
  refine jT_xisub (x := 5) (y := 5) (z := 0) (pcN := 34) jI_379_33 rfl (by decide) rfl ?_
  refine jT_xicT (pcN := 3746) jI_379_34 rfl (by decide +kernel) rfl ?_
  refine jT_xiconst (k := 1) (pcN := 3747) jI_379_3746 rfl ?_
  exact jT_ret rfl (by decide) (by show 30 ≤ 30; decide) (by omega) (by omega) ⟨rfl, rfl⟩
set_option maxRecDepth 100000 in
theorem jL_22_35 {d : Nat} {x0 x1 x2 x3 x4 : Int} (h_x0 : (-2147483648) ≤ x0 ∧ x0 ≤ 2147483647) (h_x1 : 8 ≤ x1 ∧ x1 ≤ 2147483647) (h_x2 : (-2147483648) ≤ x2 ∧ x2 ≤ 2147483647) (h_x3 : (-2147483648) ≤ x3 ∧ x3 ≤ 2147483647) (h_x4 : (-2147483648) ≤ x4 ∧ x4 ≤ 2147483647) : jT [x0, x1, x2, x3, x4] (d + 3) 379 30 1863 [(5, (0, 0)), (4, (4, 3)), (3, (4, 2)), (2, (4, 1)), (1, (4, 0)), (0, (6, 0))] [] jpA_267 1 6 (fun k v hsN => k = 0 ∧ v = (0, 1)) := by
  refine jT_xaload_n (v := (4, 0)) (pcN := 1864) jI_379_1863 rfl rfl rfl ?_
  refine jT_xaload_n (v := (6, 0)) (pcN := 1865) jI_379_1864 rfl rfl rfl ?_
  refine jT_xiload (v := (0, 0)) (pcN := 1867) jI_379_1865 rfl rfl rfl ?_
  refine jT_xiconst (k := 1) (pcN := 1868) jI_379_1867 rfl ?_
  refine jT_xiadd (x := 0) (y := 1) (z := 1) (pcN := 1869) jI_379_1868 rfl (by decide) rfl ?_
  refine jT_adv 1 (pcN := 1870) (LN := [(5, (0, 0)), (4, (4, 3)), (3, (4, 2)), (2, (4, 1)), (1, (4, 0)), (0, (6, 0))]) (stN := [(0, x1), (4, 0)]) (hsN := jpA_267) (c1 := 0) (s1 := 0) (c2 := 1) (s2 := 6) (by exact rfl) ?_ (by omega) (by omega)
  refine jT_xaload_n (v := (6, 0)) (pcN := 1871) jI_379_1870 rfl rfl rfl ?_
  refine jT_xiload (v := (0, 0)) (pcN := 1873) jI_379_1871 rfl rfl rfl ?_
  refine jT_xiconst (k := 2) (pcN := 1874) jI_379_1873 rfl ?_
  refine jT_xiadd (x := 0) (y := 2) (z := 2) (pcN := 1875) jI_379_1874 rfl (by decide) rfl ?_
  refine jT_adv 1 (pcN := 1876) (LN := [(5, (0, 0)), (4, (4, 3)), (3, (4, 2)), (2, (4, 1)), (1, (4, 0)), (0, (6, 0))]) (stN := [(0, x2), (0, x1), (4, 0)]) (hsN := jpA_267) (c1 := 0) (s1 := 0) (c2 := 1) (s2 := 6) (by exact rfl) ?_ (by omega) (by omega)
  refine jT_xaload_n (v := (6, 0)) (pcN := 1877) jI_379_1876 rfl rfl rfl ?_
  refine jT_xiload (v := (0, 0)) (pcN := 1879) jI_379_1877 rfl rfl rfl ?_
  refine jT_xiconst (k := 3) (pcN := 1880) jI_379_1879 rfl ?_
  refine jT_xiadd (x := 0) (y := 3) (z := 3) (pcN := 1881) jI_379_1880 rfl (by decide) rfl ?_
  refine jT_adv 1 (pcN := 1882) (LN := [(5, (0, 0)), (4, (4, 3)), (3, (4, 2)), (2, (4, 1)), (1, (4, 0)), (0, (6, 0))]) (stN := [(0, x3), (0, x2), (0, x1), (4, 0)]) (hsN := jpA_267) (c1 := 0) (s1 := 0) (c2 := 1) (s2 := 6) (by exact rfl) ?_ (by omega) (by omega)
  refine jT_xaload_n (v := (4, 2)) (pcN := 1883) jI_379_1882 rfl rfl rfl ?_
  refine jT_fR [0, 2, 4, 5, 6, 7, 8, 9, 10, 11, 12, 13, 14] 30 (y := 347) (pcN := 1886) (dC := 2) (bc1 := 1) (bc2 := 6) (c1 := 0) (c2 := 0) (as := [(4, 0), (0, x1), (0, x2), (0, x3), (4, 2)]) (asC := [(4, 0), (0, x1), (0, x2), (0, x3), (4, 1)]) (LN := [(5, (0, 0)), (4, (4, 3)), (3, (4, 2)), (2, (4, 1)), (1, (4, 0)), (0, (6, 0))]) (stN := []) (hsC := jpA_15) (v := (0, 1)) (st2 := [(0, 1)]) (jA_347_1540 (d := 0) (by omega) (by omega) (by omega)) (by rfl) (by rfl) (by decide +kernel) (by rfl) (by rfl) (by omega) (by omega) (by omega) (by omega) rfl ?_
  refine jT_xistore (v := (0, 1)) (LN := [(6, (0, 1)), (5, (0, 0)), (4, (4, 3)), (3, (4, 2)), (2, (4, 1)), (1, (4, 0)), (0, (6, 0))]) (pcN := 1888) jI_379_1886 rfl rfl rfl rfl ?_
  refine jT_xaload_n (v := (4, 1)) (pcN := 1889) jI_379_1888 rfl rfl rfl ?_
  refine jT_xaload_n (v := (6, 0)) (pcN := 1890) jI_379_1889 rfl rfl rfl ?_
  refine jT_xiload (v := (0, 0)) (pcN := 1892) jI_379_1890 rfl rfl rfl ?_
  refine jT_xiconst (k := 1) (pcN := 1893) jI_379_1892 rfl ?_
  refine jT_xiadd (x := 0) (y := 1) (z := 1) (pcN := 1894) jI_379_1893 rfl (by decide) rfl ?_
  refine jT_adv 1 (pcN := 1895) (LN := [(6, (0, 1)), (5, (0, 0)), (4, (4, 3)), (3, (4, 2)), (2, (4, 1)), (1, (4, 0)), (0, (6, 0))]) (stN := [(0, x1), (4, 1)]) (hsN := jpA_267) (c1 := 0) (s1 := 0) (c2 := 0) (s2 := 0) (by exact rfl) ?_ (by omega) (by omega)
  refine jT_xaload_n (v := (6, 0)) (pcN := 1896) jI_379_1895 rfl rfl rfl ?_
  refine jT_xiload (v := (0, 0)) (pcN := 1898) jI_379_1896 rfl rfl rfl ?_
  refine jT_xiconst (k := 2) (pcN := 1899) jI_379_1898 rfl ?_
  refine jT_xiadd (x := 0) (y := 2) (z := 2) (pcN := 1900) jI_379_1899 rfl (by decide) rfl ?_
  refine jT_adv 1 (pcN := 1901) (LN := [(6, (0, 1)), (5, (0, 0)), (4, (4, 3)), (3, (4, 2)), (2, (4, 1)), (1, (4, 0)), (0, (6, 0))]) (stN := [(0, x2), (0, x1), (4, 1)]) (hsN := jpA_267) (c1 := 0) (s1 := 0) (c2 := 0) (s2 := 0) (by exact rfl) ?_ (by omega) (by omega)
  refine jT_xaload_n (v := (6, 0)) (pcN := 1902) jI_379_1901 rfl rfl rfl ?_
  refine jT_xiload (v := (0, 0)) (pcN := 1904) jI_379_1902 rfl rfl rfl ?_
  refine jT_xiconst (k := 3) (pcN := 1905) jI_379_1904 rfl ?_
  refine jT_xiadd (x := 0) (y := 3) (z := 3) (pcN := 1906) jI_379_1905 rfl (by decide) rfl ?_
  refine jT_adv 1 (pcN := 1907) (LN := [(6, (0, 1)), (5, (0, 0)), (4, (4, 3)), (3, (4, 2)), (2, (4, 1)), (1, (4, 0)), (0, (6, 0))]) (stN := [(0, x3), (0, x2), (0, x1), (4, 1)]) (hsN := jpA_267) (c1 := 0) (s1 := 0) (c2 := 0) (s2 := 0) (by exact rfl) ?_ (by omega) (by omega)
  refine jT_fB [1, 15, 16, 17, 18, 19, 20, 21, 22, 23, 24, 25, 26, 27, 28, 29] 30 (y := 263) (pcN := 1910) (dC := 2) (bc1 := 0) (bc2 := 0) (c1 := 0) (c2 := 0) (as := [(4, 1), (0, x1), (0, x2), (0, x3)]) (asC := [(4, 0), (0, x1), (0, x2), (0, x3)]) (LN := [(6, (0, 1)), (5, (0, 0)), (4, (4, 3)), (3, (4, 2)), (2, (4, 1)), (1, (4, 0)), (0, (6, 0))]) (stN := []) (hsC := jpA_22) (hsD := jpA_20) (v := (1, 0)) (st2 := [(1, 0)]) (hs2 := jpA_306) (jA_263_1541 (d := 0) (by omega) (by omega) (by omega)) (by rfl) (by rfl) (by decide +kernel) (by rfl) (by rfl) (by omega) (by omega) (by omega) (by omega) rfl (by decide +kernel) ?_
  refine jT_xlstore (v := (1, 0)) (LN := [(7, (1, 0)), (6, (0, 1)), (5, (0, 0)), (4, (4, 3)), (3, (4, 2)), (2, (4, 1)), (1, (4, 0)), (0, (6, 0))]) (pcN := 1912) jI_379_1910 rfl rfl rfl rfl ?_
  refine jT_xaload_n (v := (4, 1)) (pcN := 1913) jI_379_1912 rfl rfl rfl ?_
  refine jT_fR [1, 15, 16, 17, 18, 19, 20, 21, 22, 23, 24, 25, 26, 27, 28, 29] 30 (y := 186) (pcN := 1916) (dC := 0) (bc1 := 0) (bc2 := 0) (c1 := 0) (c2 := 0) (as := [(4, 1)]) (asC := [(4, 0)]) (LN := [(7, (1, 0)), (6, (0, 1)), (5, (0, 0)), (4, (4, 3)), (3, (4, 2)), (2, (4, 1)), (1, (4, 0)), (0, (6, 0))]) (stN := []) (hsC := jpA_20) (v := (0, 1)) (st2 := [(0, 1)]) (jA_186_8 (d := 0)) (by rfl) (by rfl) (by decide +kernel) (by rfl) (by rfl) (by omega) (by omega) (by omega) (by omega) rfl ?_
  refine jT_xiload (v := (0, 1)) (pcN := 1918) jI_379_1916 rfl rfl rfl ?_
  refine jT_xicT (pcN := 1923) jI_379_1918 rfl (by decide +kernel) rfl ?_
  refine jT_xiload (v := (0, 1)) (pcN := 1925) jI_379_1923 rfl rfl rfl ?_
  refine jT_xifT (pcN := 1939) jI_379_1925 rfl (by decide +kernel) rfl ?_
  refine jT_xgoto (pcN := 3740) jI_379_1939 rfl ?_
  refine jT_xiinc (x := 0) (z := 5) (LN := [(5, (0, 5)), (7, (1, 0)), (6, (0, 1)), (4, (4, 3)), (3, (4, 2)), (2, (4, 1)), (1, (4, 0)), (0, (6, 0))]) (pcN := 3743) jI_379_3740 rfl rfl (by decide) rfl rfl ?_
  refine jT_xgoto (pcN := 28) jI_379_3743 rfl ?_
  refine jT_xiload (v := (0, 5)) (pcN := 30) jI_379_28 rfl rfl rfl ?_
  refine jT_xaload_n (v := (6, 0)) (pcN := 31) jI_379_30 rfl rfl rfl ?_
  refine jT_adv 1 (pcN := 32) (LN := [(5, (0, 5)), (7, (1, 0)), (6, (0, 1)), (4, (4, 3)), (3, (4, 2)), (2, (4, 1)), (1, (4, 0)), (0, (6, 0))]) (stN := [(0, 5), (0, 5)]) (hsN := jpA_306) (c1 := 0) (s1 := 0) (c2 := 0) (s2 := 0) (by exact rfl) ?_ (by omega) (by omega)
  refine jT_xiconst (k := 5) (pcN := 33) jI_379_32 rfl ?_
  refine jT_xisub (x := 5) (y := 5) (z := 0) (pcN := 34) jI_379_33 rfl (by decide) rfl ?_
  refine jT_xicT (pcN := 3746) jI_379_34 rfl (by decide +kernel) rfl ?_
  refine jT_xiconst (k := 1) (pcN := 3747) jI_379_3746 rfl ?_
  exact jT_ret rfl (by decide) (by show 30 ≤ 30; decide) (by omega) (by omega) ⟨rfl, rfl⟩
